theorem in_ne16 {n : Int32} (h0 : 0 ≤ n.toInt) (hn : n.toInt ≤ (16 : Nat)) (h : ¬ n = 16) : vp_in n 16 := by
  rw [vp_in_iff]
  have h3 : n.toInt ≠ 16 := fun e => h (Int32.toInt_inj.mp e)
  omega
theorem t_of {t : Int32} (h0 : ¬ t < 0) (h1 : ¬ 4 ≤ t) : ∃ j : Nat, j < 4 ∧ t = nI j ∧ t.toNatClampNeg = j := by
  obtain ⟨j, hj, e⟩ := nI_of h0
  rw [Int32.le_iff_toInt_le, e, nI_toInt hj] at h1
  have e4 : (4 : Int32).toInt = 4 := rfl
  exact ⟨j, by omega, e, by rw [e]; exact nI_clamp hj⟩
theorem i16 {t r : Int32} {j : Nat} (hj : j < 4) (e : t = nI j) (h0 : 0 ≤ r.toInt) (h1 : r.toInt ≤ 16) : (16 * t + r).toInt = 16 * (j : Int) + r.toInt := by
  have e1 : (16 * t).toInt = 16 * (j : Int) := by
    have h16 : (16 : Int32).toInt = 16 := rfl
    have hj2 : (nI j).toInt = j := nI_toInt (by omega)
    rw [e, Jvm.Kit.i32_mul (by rw [h16, hj2]; omega) (by rw [h16, hj2]; omega), h16, hj2]
  rw [Jvm.Kit.i32_add (by rw [e1]; omega) (by rw [e1]; omega), e1]
theorem row_in {t r : Int32} (h0 : ¬ t < 0) (h1 : ¬ 4 ≤ t) (hr0 : 0 ≤ r.toInt) (hr1 : r.toInt ≤ 16) (hn : ¬ r = 16) : vp_in (16 * t + r) 64 := by
  obtain ⟨j, hj, e, -⟩ := t_of h0 h1
  rw [vp_in_iff, i16 hj e hr0 hr1]
  have h3 : r.toInt ≠ 16 := fun e => hn (Int32.toInt_inj.mp e)
  omega
theorem row_in1 {t r : Int32} (h0 : ¬ t < 0) (h1 : ¬ 4 ≤ t) (hr0 : 0 ≤ r.toInt) (hr1 : r.toInt ≤ 16) (hn : ¬ r ≤ 0) : vp_in (16 * t + r - 1) 64 := by
  obtain ⟨j, hj, e, -⟩ := t_of h0 h1
  have h2 := i16 hj e hr0 hr1
  rw [Int32.le_iff_toInt_le] at hn
  have e0 : (0 : Int32).toInt = 0 := rfl
  have e1 : (1 : Int32).toInt = 1 := rfl
  rw [vp_in_iff, Jvm.Kit.i32_sub (by rw [h2, e1]; omega) (by rw [h2, e1]; omega), h2, e1]
  omega
theorem rw_b {f : Nat → Int32} {t : Int32} (hr : ∀ j : Nat, j < 4 → 0 ≤ (f j).toInt ∧ (f j).toInt ≤ 16) (h0 : ¬ t < 0) (h1 : ¬ 4 ≤ t) : 0 ≤ (f t.toNatClampNeg).toInt ∧ (f t.toNatClampNeg).toInt ≤ 16 := by
  obtain ⟨j, hj, -, e⟩ := t_of h0 h1
  rw [e]; exact hr j hj
def f_M_weight (mw : Nat → Int64) (wc : Int32) (w : Int64) : Int32 × Int32 × (Nat → Int64) × Int32 := if wc = 16 then (0, (0, mw, wc)) else if w < 0 then (0, (0, mw, wc)) else if w ≤ 1000000 then (1, (0, vp_updL mw wc.toNatClampNeg w, (wc + 1))) else (0, (0, mw, wc))
set_option maxHeartbeats 4000000 in
set_option maxRecDepth 100000 in
theorem k_M_weight (l : Launch) (dC : Nat → ClassId) (dI : Nat → Nat → Nat) (cJ cI cT : ClassId) (g m1 m2 m3 m4 m5 m6 m7 m8 : Nat) (cd am wc : Int32) (mw : Nat → Int64) (w : Int64) (sz : Nat) (hw0 : 0 ≤ wc.toInt) (hw : wc.toInt ≤ (16 : Nat)) : Met l y_M_weight w_M_weight ({ frames := 0, cells := 0, slots := 0, locals := 0 }) (va_Pc [.ref g, .long w] (wx dC dI cJ cI cT sz [(g, .inr (2, [.int cd, .int am, .ref m1, .ref m2, .ref m3, .ref m4, .ref m5, .ref m6, .ref m7, .int wc, .ref m8])), (m8, .inl (cJ, 16, .inr (.inl mw)))])) (va_Qi (fun (r9 : Int32) (u9 : Int32 × (Nat → Int64) × Int32) => (r9, u9) = f_M_weight mw wc w) (fun u => wb dC dI cJ cI cT (va_A [(g, .inr (2, [.int cd, .int am, .ref m1, .ref m2, .ref m3, .ref m4, .ref m5, .ref m6, .ref m7, .int wc, .ref m8])), (m8, .inl (cJ, 16, .inr (.inl mw)))] sz) [(g, .inr (2, [.int u.1, .int am, .ref m1, .ref m2, .ref m3, .ref m4, .ref m5, .ref m6, .ref m7, .int u.2.2, .ref m8])), (m8, .inl (cJ, 16, .inr (.inl u.2.1)))]) (va_A [(g, .inr (2, [.int cd, .int am, .ref m1, .ref m2, .ref m3, .ref m4, .ref m5, .ref m6, .ref m7, .int wc, .ref m8])), (m8, .inl (cJ, 16, .inr (.inl mw)))] sz)) 0 0 (va_A [(g, .inr (2, [.int cd, .int am, .ref m1, .ref m2, .ref m3, .ref m4, .ref m5, .ref m6, .ref m7, .int wc, .ref m8])), (m8, .inl (cJ, 16, .inr (.inl mw)))] sz) := by
  refine Met.ofW (cc := c_M_weight) (maxL := 3) (ret := (Option.some Jvm.ClassFile.FieldType.boolean)) (by decide) rfl ?_
  intro p e s m args below meth c s₁ B hml hv
  obtain ⟨rfl, hsz, hP, hK, hD0⟩ := hv
  have hx := B.exec
  have hb := B.bytes
  have hr := B.returns
  have hts := atoms_spec (ws := w_M_weight) B.pre
  have hg : ∀ w ∈ WG, w.before _ s = true := fun w h => hts w (List.mem_cons_of_mem _ h)
  have hown : s.vm.findClass R_M = some m.cls := findClass_of_methodNamed B.named
  have hlocks := B.notSynchronized
  have hl := lv_entry ([.ref g, .long w]) (n := 3) (Nat.le_of_ble_eq_true rfl)
  rw [lg_entry_eq]
  generalize (lg_sl ([.ref g, .long w]) ++ List.replicate (3 - (lg_sl ([.ref g, .long w])).length) Slot.unset).toArray = ls at hl ⊢
  have hl : lv_has ls 3 [(0, .ref g), (1, .long w)] := hl
  subst hsz
  have hD := hD0.self (sz := s.heap.size)
  generalize hAe : va_A [(g, .inr (2, [.int cd, .int am, .ref m1, .ref m2, .ref m3, .ref m4, .ref m5, .ref m6, .ref m7, .int wc, .ref m8])), (m8, .inl (cJ, 16, .inr (.inl mw)))] s.heap.size = A at hD ⊢
  have hA : ∀ q : Nat, s.heap.size ≤ q → A q := fun q h => by rw [← hAe]; exact Or.inr h
  have hS : va_S A s.heap s.heap [] := va_S.rf
  have hP : va_P (dC, dI) classes [(g, .inr (2, [.int cd, .int am, .ref m1, .ref m2, .ref m3, .ref m4, .ref m5, .ref m6, .ref m7, .int wc, .ref m8])), (m8, .inl (cJ, 16, .inr (.inl mw)))] s.heap := hP
  have hD : va_D A [(g, .inr (2, [.int cd, .int am, .ref m1, .ref m2, .ref m3, .ref m4, .ref m5, .ref m6, .ref m7, .int wc, .ref m8])), (m8, .inl (cJ, 16, .inr (.inl mw)))] := hD
  skip
  refine lv_aload_n hx hb d_M_weight_0 rfl (lv_at hl 0 rfl) ?_
  refine lv_iconst (v := 0) hx hb d_M_weight_1 (by decide) ?_
  refine va_put (D := (dC, dI)) (ci := 2) (v := .int 0) (ty := .int) (C := R_M) (T := F_M) (N := 11) hx hb hg in_M tt_M tt_M_ok nn_M hown hK hP hD hS 0 rfl rfl 0 (by decide) (hg _ wg_266) (fun _ h9 => h9) rfl (by decide +kernel) rfl rfl (Nat.le_of_ble_eq_true rfl) d_M_weight_2 (fun H locs hP hD hS => ?_)
  have hP : va_P (dC, dI) classes [(g, .inr (2, [.int 0, .int am, .ref m1, .ref m2, .ref m3, .ref m4, .ref m5, .ref m6, .ref m7, .int wc, .ref m8])), (m8, .inl (cJ, 16, .inr (.inl mw)))] H := hP
  have hD : va_D A [(g, .inr (2, [.int 0, .int am, .ref m1, .ref m2, .ref m3, .ref m4, .ref m5, .ref m6, .ref m7, .int wc, .ref m8])), (m8, .inl (cJ, 16, .inr (.inl mw)))] := hD
  refine lv_aload_n hx hb d_M_weight_5 rfl (lv_at hl 0 rfl) ?_
  refine va_get (D := (dC, dI)) (ci := 2) (v := .int wc) (C := R_M) (T := F_M) (N := 11) hx hb hg in_M hown hK hP 0 rfl rfl 9 (by decide) (hg _ wg_275) (fun _ h9 => h9) rfl d_M_weight_6 ?_
  refine lv_bipush (v := 16) hx hb d_M_weight_9 (by decide) ?_
  refine lv_icmp_eq (tgt := 28) hx hb d_M_weight_11 (by decide) (fun c_1 => ?_) (fun c_1 => ?_)
  · skip
    refine lv_iconst (v := 0) hx hb d_M_weight_28 (by decide) ?_
    have hP9 := hP.sub (ws' := [(g, .inr (2, [.int 0, .int am, .ref m1, .ref m2, .ref m3, .ref m4, .ref m5, .ref m6, .ref m7, .int wc, .ref m8])), (m8, .inl (cJ, 16, .inr (.inl mw)))]) [0, 1] rfl
    have hD9 := hD.sub (ws' := [(g, .inr (2, [.int 0, .int am, .ref m1, .ref m2, .ref m3, .ref m4, .ref m5, .ref m6, .ref m7, .int wc, .ref m8])), (m8, .inl (cJ, 16, .inr (.inl mw)))]) [0, 1] (by decide) rfl
    have hz : (0, (0, mw, wc)) = f_M_weight mw wc w := by unfold f_M_weight; rw [if_pos c_1]
    exact W.zret (v := 0) hx hb hr rfl (fun t ht hW => ⟨⟨0, (0, mw, wc), rfl, hz, wb_of ht hW hP9 hK hD9⟩, hS.F ht⟩) hS.2.2 d_M_weight_29
  · skip
    refine lv_lload_n hx hb d_M_weight_14 rfl (lv_at hl 1 rfl) ?_
    refine lv_lconst (v := 0) hx hb d_M_weight_15 (by decide) ?_
    refine W.lcmp hx hb d_M_weight_16 ?_
    refine lv_if_lt (tgt := 28) hx hb d_M_weight_17 (by decide) (fun c_2 => ?_) (fun c_2 => ?_)
    · skip
      rw [lg_cmp_lt] at c_2
      refine lv_iconst (v := 0) hx hb d_M_weight_28 (by decide) ?_
      have hP9 := hP.sub (ws' := [(g, .inr (2, [.int 0, .int am, .ref m1, .ref m2, .ref m3, .ref m4, .ref m5, .ref m6, .ref m7, .int wc, .ref m8])), (m8, .inl (cJ, 16, .inr (.inl mw)))]) [0, 1] rfl
      have hD9 := hD.sub (ws' := [(g, .inr (2, [.int 0, .int am, .ref m1, .ref m2, .ref m3, .ref m4, .ref m5, .ref m6, .ref m7, .int wc, .ref m8])), (m8, .inl (cJ, 16, .inr (.inl mw)))]) [0, 1] (by decide) rfl
      have hz : (0, (0, mw, wc)) = f_M_weight mw wc w := by unfold f_M_weight; rw [if_neg c_1, if_pos c_2]
      exact W.zret (v := 0) hx hb hr rfl (fun t ht hW => ⟨⟨0, (0, mw, wc), rfl, hz, wb_of ht hW hP9 hK hD9⟩, hS.F ht⟩) hS.2.2 d_M_weight_29
    · skip
      rw [lg_cmp_lt] at c_2
      refine lv_lload_n hx hb d_M_weight_20 rfl (lv_at hl 1 rfl) ?_
      refine lv_ldc2 (v := 1000000) hx hb hown (hg _ wg_355) d_M_weight_21 ?_
      refine W.lcmp hx hb d_M_weight_24 ?_
      refine lv_if_le (tgt := 30) hx hb d_M_weight_25 (by decide) (fun c_3 => ?_) (fun c_3 => ?_)
      · skip
        rw [lg_cmp_le] at c_3
        refine lv_aload_n hx hb d_M_weight_30 rfl (lv_at hl 0 rfl) ?_
        refine va_get (D := (dC, dI)) (ci := 2) (v := .ref m8) (C := R_M) (T := F_M) (N := 11) hx hb hg in_M hown hK hP 0 rfl rfl 10 (by decide) (hg _ wg_276) (fun _ h9 => h9) rfl d_M_weight_31 ?_
        refine lv_aload_n hx hb d_M_weight_34 rfl (lv_at hl 0 rfl) ?_
        refine va_get (D := (dC, dI)) (ci := 2) (v := .int wc) (C := R_M) (T := F_M) (N := 11) hx hb hg in_M hown hK hP 0 rfl rfl 9 (by decide) (hg _ wg_275) (fun _ h9 => h9) rfl d_M_weight_35 ?_
        refine lv_lload_n hx hb d_M_weight_38 rfl (lv_at hl 1 rfl) ?_
        refine va_last hx hb hK hP hD hS 1 0 rfl rfl (in_ne16 hw0 hw c_1) d_M_weight_39 (fun H locs hP hD hS => ?_)
        have hP : va_P (dC, dI) classes [(g, .inr (2, [.int 0, .int am, .ref m1, .ref m2, .ref m3, .ref m4, .ref m5, .ref m6, .ref m7, .int wc, .ref m8])), (m8, .inl (cJ, 16, .inr (.inl (vp_updL mw wc.toNatClampNeg w))))] H := hP
        have hD : va_D A [(g, .inr (2, [.int 0, .int am, .ref m1, .ref m2, .ref m3, .ref m4, .ref m5, .ref m6, .ref m7, .int wc, .ref m8])), (m8, .inl (cJ, 16, .inr (.inl (vp_updL mw wc.toNatClampNeg w))))] := hD
        refine lv_aload_n hx hb d_M_weight_40 rfl (lv_at hl 0 rfl) ?_
        refine lv_dup hx hb d_M_weight_41 rfl ?_
        refine va_get (D := (dC, dI)) (ci := 2) (v := .int wc) (C := R_M) (T := F_M) (N := 11) hx hb hg in_M hown hK hP 0 rfl rfl 9 (by decide) (hg _ wg_275) (fun _ h9 => h9) rfl d_M_weight_42 ?_
        refine lv_iconst (v := 1) hx hb d_M_weight_45 (by decide) ?_
        refine lv_iadd hx hb d_M_weight_46 ?_
        refine lv_topi (fun v_4 ev_4 => ?_)
        refine va_put (D := (dC, dI)) (ci := 2) (v := .int v_4) (ty := .int) (C := R_M) (T := F_M) (N := 11) hx hb hg in_M tt_M tt_M_ok nn_M hown hK hP hD hS 0 rfl rfl 9 (by decide) (hg _ wg_275) (fun _ h9 => h9) rfl (by decide +kernel) rfl rfl (Nat.le_of_ble_eq_true rfl) d_M_weight_47 (fun H locs hP hD hS => ?_)
        have hP : va_P (dC, dI) classes [(g, .inr (2, [.int 0, .int am, .ref m1, .ref m2, .ref m3, .ref m4, .ref m5, .ref m6, .ref m7, .int v_4, .ref m8])), (m8, .inl (cJ, 16, .inr (.inl (vp_updL mw wc.toNatClampNeg w))))] H := hP
        have hD : va_D A [(g, .inr (2, [.int 0, .int am, .ref m1, .ref m2, .ref m3, .ref m4, .ref m5, .ref m6, .ref m7, .int v_4, .ref m8])), (m8, .inl (cJ, 16, .inr (.inl (vp_updL mw wc.toNatClampNeg w))))] := hD
        refine lv_iconst (v := 1) hx hb d_M_weight_50 (by decide) ?_
        subst ev_4
        have hP9 := hP.sub (ws' := [(g, .inr (2, [.int 0, .int am, .ref m1, .ref m2, .ref m3, .ref m4, .ref m5, .ref m6, .ref m7, .int (wc + 1), .ref m8])), (m8, .inl (cJ, 16, .inr (.inl (vp_updL mw wc.toNatClampNeg w))))]) [0, 1] rfl
        have hD9 := hD.sub (ws' := [(g, .inr (2, [.int 0, .int am, .ref m1, .ref m2, .ref m3, .ref m4, .ref m5, .ref m6, .ref m7, .int (wc + 1), .ref m8])), (m8, .inl (cJ, 16, .inr (.inl (vp_updL mw wc.toNatClampNeg w))))]) [0, 1] (by decide) rfl
        have hz : (1, (0, vp_updL mw wc.toNatClampNeg w, (wc + 1))) = f_M_weight mw wc w := by unfold f_M_weight; rw [if_neg c_1, if_neg c_2, if_pos c_3]
        exact W.zret (v := 1) hx hb hr rfl (fun t ht hW => ⟨⟨1, (0, vp_updL mw wc.toNatClampNeg w, (wc + 1)), rfl, hz, wb_of ht hW hP9 hK hD9⟩, hS.F ht⟩) hS.2.2 d_M_weight_51
      · skip
        rw [lg_cmp_le] at c_3
        refine lv_iconst (v := 0) hx hb d_M_weight_28 (by decide) ?_
        have hP9 := hP.sub (ws' := [(g, .inr (2, [.int 0, .int am, .ref m1, .ref m2, .ref m3, .ref m4, .ref m5, .ref m6, .ref m7, .int wc, .ref m8])), (m8, .inl (cJ, 16, .inr (.inl mw)))]) [0, 1] rfl
        have hD9 := hD.sub (ws' := [(g, .inr (2, [.int 0, .int am, .ref m1, .ref m2, .ref m3, .ref m4, .ref m5, .ref m6, .ref m7, .int wc, .ref m8])), (m8, .inl (cJ, 16, .inr (.inl mw)))]) [0, 1] (by decide) rfl
        have hz : (0, (0, mw, wc)) = f_M_weight mw wc w := by unfold f_M_weight; rw [if_neg c_1, if_neg c_2, if_neg c_3]
        exact W.zret (v := 0) hx hb hr rfl (fun t ht hW => ⟨⟨0, (0, mw, wc), rfl, hz, wb_of ht hW hP9 hK hD9⟩, hS.F ht⟩) hS.2.2 d_M_weight_29
def f_M_told (up dn : Nat → Int64) (mu : Nat → Int32) (am : Int32) (rw_ : Nat → Int32) (wc : Int32) (a : Int32) (wh : Int32) : Int64 × Int32 × (Nat → Int64) × (Nat → Int64) × (Nat → Int32) × Int32 := if wh = 0 then if (f_M_isAmount a am) = 0 then ((-9), (0, up, dn, mu, am)) else (up a.toNatClampNeg, (0, up, dn, mu, am)) else if wh = 1 then if (f_M_isAmount a am) = 0 then ((-9), (0, up, dn, mu, am)) else (dn a.toNatClampNeg, (0, up, dn, mu, am)) else if wh = 2 then if (f_M_isAmount a am) = 0 then ((-9), (0, up, dn, mu, am)) else ((mu a.toNatClampNeg).toInt64, (0, up, dn, mu, am)) else if wh = 3 then (am.toInt64, (0, up, dn, mu, am)) else if wh = 4 then (wc.toInt64, (0, up, dn, mu, am)) else if wh = 5 then if a < 0 then ((-9), (0, up, dn, mu, am)) else if 4 ≤ a then ((-9), (0, up, dn, mu, am)) else ((rw_ a.toNatClampNeg).toInt64, (0, up, dn, mu, am)) else ((-9), (0, up, dn, mu, am))
set_option maxHeartbeats 4000000 in
set_option maxRecDepth 100000 in
theorem k_M_told (l : Launch) (dC : Nat → ClassId) (dI : Nat → Nat → Nat) (cJ cI cT : ClassId) (g m1 m2 m3 m4 m5 m6 m7 m8 : Nat) (cd am wc : Int32) (up dn : Nat → Int64) (mu : Nat → Int32) (rw_ : Nat → Int32) (a : Int32) (wh : Int32) (sz : Nat) (ha0 : 0 ≤ am.toInt) (ha : am.toInt ≤ (500 : Nat)) : Met l y_M_told w_M_told ({ frames := 1, cells := 0, slots := 0, locals := 21 }) (va_Pc [.ref g, .int a, .int wh] (wx dC dI cJ cI cT sz [(g, .inr (2, [.int cd, .int am, .ref m1, .ref m2, .ref m3, .ref m4, .ref m5, .ref m6, .ref m7, .int wc, .ref m8])), (m1, .inl (cJ, 500, .inr (.inl up))), (m2, .inl (cJ, 500, .inr (.inl dn))), (m3, .inl (cI, 500, .inl mu)), (m4, .inl (cI, 4, .inl rw_))])) (va_Ql (fun (r9 : Int64) (u9 : Int32 × (Nat → Int64) × (Nat → Int64) × (Nat → Int32) × Int32) => (r9, u9) = f_M_told up dn mu am rw_ wc a wh) (fun u => wb dC dI cJ cI cT (va_A [(g, .inr (2, [.int cd, .int am, .ref m1, .ref m2, .ref m3, .ref m4, .ref m5, .ref m6, .ref m7, .int wc, .ref m8])), (m1, .inl (cJ, 500, .inr (.inl up))), (m2, .inl (cJ, 500, .inr (.inl dn))), (m3, .inl (cI, 500, .inl mu)), (m4, .inl (cI, 4, .inl rw_))] sz) [(g, .inr (2, [.int u.1, .int u.2.2.2.2, .ref m1, .ref m2, .ref m3, .ref m4, .ref m5, .ref m6, .ref m7, .int wc, .ref m8])), (m1, .inl (cJ, 500, .inr (.inl u.2.1))), (m2, .inl (cJ, 500, .inr (.inl u.2.2.1))), (m3, .inl (cI, 500, .inl u.2.2.2.1)), (m4, .inl (cI, 4, .inl rw_))]) (va_A [(g, .inr (2, [.int cd, .int am, .ref m1, .ref m2, .ref m3, .ref m4, .ref m5, .ref m6, .ref m7, .int wc, .ref m8])), (m1, .inl (cJ, 500, .inr (.inl up))), (m2, .inl (cJ, 500, .inr (.inl dn))), (m3, .inl (cI, 500, .inl mu)), (m4, .inl (cI, 4, .inl rw_))] sz)) 0 0 (va_A [(g, .inr (2, [.int cd, .int am, .ref m1, .ref m2, .ref m3, .ref m4, .ref m5, .ref m6, .ref m7, .int wc, .ref m8])), (m1, .inl (cJ, 500, .inr (.inl up))), (m2, .inl (cJ, 500, .inr (.inl dn))), (m3, .inl (cI, 500, .inl mu)), (m4, .inl (cI, 4, .inl rw_))] sz) := by
  refine Met.ofW (cc := c_M_told) (maxL := 3) (ret := (Option.some Jvm.ClassFile.FieldType.long)) (by decide) rfl ?_
  intro p e s m args below meth c s₁ B hml hv
  obtain ⟨rfl, hsz, hP, hK, hD0⟩ := hv
  have hx := B.exec
  have hb := B.bytes
  have hr := B.returns
  have hts := atoms_spec (ws := w_M_told) B.pre
  have hg : ∀ w ∈ WG, w.before _ s = true := fun w h => hts w (List.mem_cons_of_mem _ h)
  have hown : s.vm.findClass R_M = some m.cls := findClass_of_methodNamed B.named
  have hlocks := B.notSynchronized
  have hl := lv_entry ([.ref g, .int a, .int wh]) (n := 3) (Nat.le_of_ble_eq_true rfl)
  rw [lg_entry_eq]
  generalize (lg_sl ([.ref g, .int a, .int wh]) ++ List.replicate (3 - (lg_sl ([.ref g, .int a, .int wh])).length) Slot.unset).toArray = ls at hl ⊢
  have hl : lv_has ls 3 [(0, .ref g), (1, .int a), (2, .int wh)] := hl
  subst hsz
  have hD := hD0.self (sz := s.heap.size)
  generalize hAe : va_A [(g, .inr (2, [.int cd, .int am, .ref m1, .ref m2, .ref m3, .ref m4, .ref m5, .ref m6, .ref m7, .int wc, .ref m8])), (m1, .inl (cJ, 500, .inr (.inl up))), (m2, .inl (cJ, 500, .inr (.inl dn))), (m3, .inl (cI, 500, .inl mu)), (m4, .inl (cI, 4, .inl rw_))] s.heap.size = A at hD ⊢
  have hA : ∀ q : Nat, s.heap.size ≤ q → A q := fun q h => by rw [← hAe]; exact Or.inr h
  have hS : va_S A s.heap s.heap [] := va_S.rf
  have hP : va_P (dC, dI) classes [(g, .inr (2, [.int cd, .int am, .ref m1, .ref m2, .ref m3, .ref m4, .ref m5, .ref m6, .ref m7, .int wc, .ref m8])), (m1, .inl (cJ, 500, .inr (.inl up))), (m2, .inl (cJ, 500, .inr (.inl dn))), (m3, .inl (cI, 500, .inl mu)), (m4, .inl (cI, 4, .inl rw_))] s.heap := hP
  have hD : va_D A [(g, .inr (2, [.int cd, .int am, .ref m1, .ref m2, .ref m3, .ref m4, .ref m5, .ref m6, .ref m7, .int wc, .ref m8])), (m1, .inl (cJ, 500, .inr (.inl up))), (m2, .inl (cJ, 500, .inr (.inl dn))), (m3, .inl (cI, 500, .inl mu)), (m4, .inl (cI, 4, .inl rw_))] := hD
  skip
  refine lv_aload_n hx hb d_M_told_0 rfl (lv_at hl 0 rfl) ?_
  refine lv_iconst (v := 0) hx hb d_M_told_1 (by decide) ?_
  refine va_put (D := (dC, dI)) (ci := 2) (v := .int 0) (ty := .int) (C := R_M) (T := F_M) (N := 11) hx hb hg in_M tt_M tt_M_ok nn_M hown hK hP hD hS 0 rfl rfl 0 (by decide) (hg _ wg_266) (fun _ h9 => h9) rfl (by decide +kernel) rfl rfl (Nat.le_of_ble_eq_true rfl) d_M_told_2 (fun H locs hP hD hS => ?_)
  have hP : va_P (dC, dI) classes [(g, .inr (2, [.int 0, .int am, .ref m1, .ref m2, .ref m3, .ref m4, .ref m5, .ref m6, .ref m7, .int wc, .ref m8])), (m1, .inl (cJ, 500, .inr (.inl up))), (m2, .inl (cJ, 500, .inr (.inl dn))), (m3, .inl (cI, 500, .inl mu)), (m4, .inl (cI, 4, .inl rw_))] H := hP
  have hD : va_D A [(g, .inr (2, [.int 0, .int am, .ref m1, .ref m2, .ref m3, .ref m4, .ref m5, .ref m6, .ref m7, .int wc, .ref m8])), (m1, .inl (cJ, 500, .inr (.inl up))), (m2, .inl (cJ, 500, .inr (.inl dn))), (m3, .inl (cI, 500, .inl mu)), (m4, .inl (cI, 4, .inl rw_))] := hD
  refine lv_iload_n hx hb d_M_told_5 rfl (lv_at hl 2 rfl) ?_
  by_cases c_1 : wh = 0
  · skip
    refine lv_tableIn (off := 38) (tgt := 44) hx hb d_M_told_6 (by rw [c_1]; decide) (by rw [c_1]; decide) (by rw [c_1]; rfl) (by decide) ?_
    refine lv_aload_n hx hb d_M_told_44 rfl (lv_at hl 0 rfl) ?_
    refine lv_iload_n hx hb d_M_told_45 rfl (lv_at hl 1 rfl) ?_
    have hPc := hP.sub (ws' := [(g, .inr (2, [.int 0, .int am, .ref m1, .ref m2, .ref m3, .ref m4, .ref m5, .ref m6, .ref m7, .int wc, .ref m8]))]) [0] rfl
    refine W.callV (W.runV (As := [.int a]) (rest := []) ⟨hx, hb, hml, hown, hg⟩ (k_M_isAmount l dC dI cJ cI cT g m1 m2 m3 m4 m5 m6 m7 m8 0 am wc a) (q_V 1 hg wg_312 wg_310 wg_311 wg_11 wg_15 rfl rfl (by decide +kernel) ⟨Nat.le_of_ble_eq_true rfl, Nat.le_of_ble_eq_true rfl⟩) ⟨wd_blind, va_recv hK hPc (ci := 2) (q0 := 0) rfl rfl, wd_pre (as := .ref g :: [.int a]) hPc hK⟩ rfl rfl hl.1 rfl (lv_room (Nat.le_of_ble_eq_true rfl)) d_M_told_46 ⟨Nat.le_of_ble_eq_true rfl, Nat.le_of_ble_eq_true rfl⟩) ?_
    refine W.eq (g2 := F0 m 49 ls (.int (f_M_isAmount a am) :: [])) rfl ?_
    refine lv_if_eq (tgt := 61) hx hb d_M_told_49 (by decide) (fun c_2 => ?_) (fun c_2 => ?_)
    · skip
      refine lv_ldc2 (v := (-9)) hx hb hown (hg _ wg_371) d_M_told_61 ?_
      have hP9 := hP.sub (ws' := [(g, .inr (2, [.int 0, .int am, .ref m1, .ref m2, .ref m3, .ref m4, .ref m5, .ref m6, .ref m7, .int wc, .ref m8])), (m1, .inl (cJ, 500, .inr (.inl up))), (m2, .inl (cJ, 500, .inr (.inl dn))), (m3, .inl (cI, 500, .inl mu)), (m4, .inl (cI, 4, .inl rw_))]) [0, 1, 2, 3, 4] rfl
      have hD9 := hD.sub (ws' := [(g, .inr (2, [.int 0, .int am, .ref m1, .ref m2, .ref m3, .ref m4, .ref m5, .ref m6, .ref m7, .int wc, .ref m8])), (m1, .inl (cJ, 500, .inr (.inl up))), (m2, .inl (cJ, 500, .inr (.inl dn))), (m3, .inl (cI, 500, .inl mu)), (m4, .inl (cI, 4, .inl rw_))]) [0, 1, 2, 3, 4] (by decide) rfl
      have hz : ((-9), (0, up, dn, mu, am)) = f_M_told up dn mu am rw_ wc a wh := by unfold f_M_told; rw [if_pos c_1, if_pos c_2]
      exact W.lret (v := (-9)) hx hb hr (fun t ht hW => ⟨⟨(-9), (0, up, dn, mu, am), rfl, hz, wb_of ht hW hP9 hK hD9⟩, hS.F ht⟩) hS.2.2 d_M_told_64
    · skip
      refine lv_aload_n hx hb d_M_told_52 rfl (lv_at hl 0 rfl) ?_
      refine va_get (D := (dC, dI)) (ci := 2) (v := .ref m1) (C := R_M) (T := F_M) (N := 11) hx hb hg in_M hown hK hP 0 rfl rfl 2 (by decide) (hg _ wg_268) (fun _ h9 => h9) rfl d_M_told_53 ?_
      refine lv_iload_n hx hb d_M_told_56 rfl (lv_at hl 1 rfl) ?_
      refine va_lald hx hb hK hP 1 0 rfl rfl (mam_in c_2 ha) d_M_told_57 ?_
      refine lv_goto (tgt := 64) hx hb d_M_told_58 (by decide) ?_
      have hP9 := hP.sub (ws' := [(g, .inr (2, [.int 0, .int am, .ref m1, .ref m2, .ref m3, .ref m4, .ref m5, .ref m6, .ref m7, .int wc, .ref m8])), (m1, .inl (cJ, 500, .inr (.inl up))), (m2, .inl (cJ, 500, .inr (.inl dn))), (m3, .inl (cI, 500, .inl mu)), (m4, .inl (cI, 4, .inl rw_))]) [0, 1, 2, 3, 4] rfl
      have hD9 := hD.sub (ws' := [(g, .inr (2, [.int 0, .int am, .ref m1, .ref m2, .ref m3, .ref m4, .ref m5, .ref m6, .ref m7, .int wc, .ref m8])), (m1, .inl (cJ, 500, .inr (.inl up))), (m2, .inl (cJ, 500, .inr (.inl dn))), (m3, .inl (cI, 500, .inl mu)), (m4, .inl (cI, 4, .inl rw_))]) [0, 1, 2, 3, 4] (by decide) rfl
      have hz : (up a.toNatClampNeg, (0, up, dn, mu, am)) = f_M_told up dn mu am rw_ wc a wh := by unfold f_M_told; rw [if_pos c_1, if_neg c_2]
      exact W.lret (v := up a.toNatClampNeg) hx hb hr (fun t ht hW => ⟨⟨up a.toNatClampNeg, (0, up, dn, mu, am), rfl, hz, wb_of ht hW hP9 hK hD9⟩, hS.F ht⟩) hS.2.2 d_M_told_64
  · skip
    by_cases c_3 : wh = 1
    · skip
      refine lv_tableIn (off := 59) (tgt := 65) hx hb d_M_told_6 (by rw [c_3]; decide) (by rw [c_3]; decide) (by rw [c_3]; rfl) (by decide) ?_
      refine lv_aload_n hx hb d_M_told_65 rfl (lv_at hl 0 rfl) ?_
      refine lv_iload_n hx hb d_M_told_66 rfl (lv_at hl 1 rfl) ?_
      have hPc := hP.sub (ws' := [(g, .inr (2, [.int 0, .int am, .ref m1, .ref m2, .ref m3, .ref m4, .ref m5, .ref m6, .ref m7, .int wc, .ref m8]))]) [0] rfl
      refine W.callV (W.runV (As := [.int a]) (rest := []) ⟨hx, hb, hml, hown, hg⟩ (k_M_isAmount l dC dI cJ cI cT g m1 m2 m3 m4 m5 m6 m7 m8 0 am wc a) (q_V 1 hg wg_312 wg_310 wg_311 wg_11 wg_15 rfl rfl (by decide +kernel) ⟨Nat.le_of_ble_eq_true rfl, Nat.le_of_ble_eq_true rfl⟩) ⟨wd_blind, va_recv hK hPc (ci := 2) (q0 := 0) rfl rfl, wd_pre (as := .ref g :: [.int a]) hPc hK⟩ rfl rfl hl.1 rfl (lv_room (Nat.le_of_ble_eq_true rfl)) d_M_told_67 ⟨Nat.le_of_ble_eq_true rfl, Nat.le_of_ble_eq_true rfl⟩) ?_
      refine W.eq (g2 := F0 m 70 ls (.int (f_M_isAmount a am) :: [])) rfl ?_
      refine lv_if_eq (tgt := 82) hx hb d_M_told_70 (by decide) (fun c_4 => ?_) (fun c_4 => ?_)
      · skip
        refine lv_ldc2 (v := (-9)) hx hb hown (hg _ wg_371) d_M_told_82 ?_
        have hP9 := hP.sub (ws' := [(g, .inr (2, [.int 0, .int am, .ref m1, .ref m2, .ref m3, .ref m4, .ref m5, .ref m6, .ref m7, .int wc, .ref m8])), (m1, .inl (cJ, 500, .inr (.inl up))), (m2, .inl (cJ, 500, .inr (.inl dn))), (m3, .inl (cI, 500, .inl mu)), (m4, .inl (cI, 4, .inl rw_))]) [0, 1, 2, 3, 4] rfl
        have hD9 := hD.sub (ws' := [(g, .inr (2, [.int 0, .int am, .ref m1, .ref m2, .ref m3, .ref m4, .ref m5, .ref m6, .ref m7, .int wc, .ref m8])), (m1, .inl (cJ, 500, .inr (.inl up))), (m2, .inl (cJ, 500, .inr (.inl dn))), (m3, .inl (cI, 500, .inl mu)), (m4, .inl (cI, 4, .inl rw_))]) [0, 1, 2, 3, 4] (by decide) rfl
        have hz : ((-9), (0, up, dn, mu, am)) = f_M_told up dn mu am rw_ wc a wh := by unfold f_M_told; rw [if_neg c_1, if_pos c_3, if_pos c_4]
        exact W.lret (v := (-9)) hx hb hr (fun t ht hW => ⟨⟨(-9), (0, up, dn, mu, am), rfl, hz, wb_of ht hW hP9 hK hD9⟩, hS.F ht⟩) hS.2.2 d_M_told_85
      · skip
        refine lv_aload_n hx hb d_M_told_73 rfl (lv_at hl 0 rfl) ?_
        refine va_get (D := (dC, dI)) (ci := 2) (v := .ref m2) (C := R_M) (T := F_M) (N := 11) hx hb hg in_M hown hK hP 0 rfl rfl 3 (by decide) (hg _ wg_269) (fun _ h9 => h9) rfl d_M_told_74 ?_
        refine lv_iload_n hx hb d_M_told_77 rfl (lv_at hl 1 rfl) ?_
        refine va_lald hx hb hK hP 2 0 rfl rfl (mam_in c_4 ha) d_M_told_78 ?_
        refine lv_goto (tgt := 85) hx hb d_M_told_79 (by decide) ?_
        have hP9 := hP.sub (ws' := [(g, .inr (2, [.int 0, .int am, .ref m1, .ref m2, .ref m3, .ref m4, .ref m5, .ref m6, .ref m7, .int wc, .ref m8])), (m1, .inl (cJ, 500, .inr (.inl up))), (m2, .inl (cJ, 500, .inr (.inl dn))), (m3, .inl (cI, 500, .inl mu)), (m4, .inl (cI, 4, .inl rw_))]) [0, 1, 2, 3, 4] rfl
        have hD9 := hD.sub (ws' := [(g, .inr (2, [.int 0, .int am, .ref m1, .ref m2, .ref m3, .ref m4, .ref m5, .ref m6, .ref m7, .int wc, .ref m8])), (m1, .inl (cJ, 500, .inr (.inl up))), (m2, .inl (cJ, 500, .inr (.inl dn))), (m3, .inl (cI, 500, .inl mu)), (m4, .inl (cI, 4, .inl rw_))]) [0, 1, 2, 3, 4] (by decide) rfl
        have hz : (dn a.toNatClampNeg, (0, up, dn, mu, am)) = f_M_told up dn mu am rw_ wc a wh := by unfold f_M_told; rw [if_neg c_1, if_pos c_3, if_neg c_4]
        exact W.lret (v := dn a.toNatClampNeg) hx hb hr (fun t ht hW => ⟨⟨dn a.toNatClampNeg, (0, up, dn, mu, am), rfl, hz, wb_of ht hW hP9 hK hD9⟩, hS.F ht⟩) hS.2.2 d_M_told_85
    · skip
      by_cases c_5 : wh = 2
      · skip
        refine lv_tableIn (off := 80) (tgt := 86) hx hb d_M_told_6 (by rw [c_5]; decide) (by rw [c_5]; decide) (by rw [c_5]; rfl) (by decide) ?_
        refine lv_aload_n hx hb d_M_told_86 rfl (lv_at hl 0 rfl) ?_
        refine lv_iload_n hx hb d_M_told_87 rfl (lv_at hl 1 rfl) ?_
        have hPc := hP.sub (ws' := [(g, .inr (2, [.int 0, .int am, .ref m1, .ref m2, .ref m3, .ref m4, .ref m5, .ref m6, .ref m7, .int wc, .ref m8]))]) [0] rfl
        refine W.callV (W.runV (As := [.int a]) (rest := []) ⟨hx, hb, hml, hown, hg⟩ (k_M_isAmount l dC dI cJ cI cT g m1 m2 m3 m4 m5 m6 m7 m8 0 am wc a) (q_V 1 hg wg_312 wg_310 wg_311 wg_11 wg_15 rfl rfl (by decide +kernel) ⟨Nat.le_of_ble_eq_true rfl, Nat.le_of_ble_eq_true rfl⟩) ⟨wd_blind, va_recv hK hPc (ci := 2) (q0 := 0) rfl rfl, wd_pre (as := .ref g :: [.int a]) hPc hK⟩ rfl rfl hl.1 rfl (lv_room (Nat.le_of_ble_eq_true rfl)) d_M_told_88 ⟨Nat.le_of_ble_eq_true rfl, Nat.le_of_ble_eq_true rfl⟩) ?_
        refine W.eq (g2 := F0 m 91 ls (.int (f_M_isAmount a am) :: [])) rfl ?_
        refine lv_if_eq (tgt := 104) hx hb d_M_told_91 (by decide) (fun c_6 => ?_) (fun c_6 => ?_)
        · skip
          refine lv_ldc2 (v := (-9)) hx hb hown (hg _ wg_371) d_M_told_104 ?_
          have hP9 := hP.sub (ws' := [(g, .inr (2, [.int 0, .int am, .ref m1, .ref m2, .ref m3, .ref m4, .ref m5, .ref m6, .ref m7, .int wc, .ref m8])), (m1, .inl (cJ, 500, .inr (.inl up))), (m2, .inl (cJ, 500, .inr (.inl dn))), (m3, .inl (cI, 500, .inl mu)), (m4, .inl (cI, 4, .inl rw_))]) [0, 1, 2, 3, 4] rfl
          have hD9 := hD.sub (ws' := [(g, .inr (2, [.int 0, .int am, .ref m1, .ref m2, .ref m3, .ref m4, .ref m5, .ref m6, .ref m7, .int wc, .ref m8])), (m1, .inl (cJ, 500, .inr (.inl up))), (m2, .inl (cJ, 500, .inr (.inl dn))), (m3, .inl (cI, 500, .inl mu)), (m4, .inl (cI, 4, .inl rw_))]) [0, 1, 2, 3, 4] (by decide) rfl
          have hz : ((-9), (0, up, dn, mu, am)) = f_M_told up dn mu am rw_ wc a wh := by unfold f_M_told; rw [if_neg c_1, if_neg c_3, if_pos c_5, if_pos c_6]
          exact W.lret (v := (-9)) hx hb hr (fun t ht hW => ⟨⟨(-9), (0, up, dn, mu, am), rfl, hz, wb_of ht hW hP9 hK hD9⟩, hS.F ht⟩) hS.2.2 d_M_told_107
        · skip
          refine lv_aload_n hx hb d_M_told_94 rfl (lv_at hl 0 rfl) ?_
          refine va_get (D := (dC, dI)) (ci := 2) (v := .ref m3) (C := R_M) (T := F_M) (N := 11) hx hb hg in_M hown hK hP 0 rfl rfl 4 (by decide) (hg _ wg_270) (fun _ h9 => h9) rfl d_M_told_95 ?_
          refine lv_iload_n hx hb d_M_told_98 rfl (lv_at hl 1 rfl) ?_
          refine va_iald hx hb hK hP 3 1 rfl rfl (mam_in c_6 ha) d_M_told_99 ?_
          refine lv_i2l hx hb d_M_told_100 rfl ?_
          refine lv_goto (tgt := 107) hx hb d_M_told_101 (by decide) ?_
          have hP9 := hP.sub (ws' := [(g, .inr (2, [.int 0, .int am, .ref m1, .ref m2, .ref m3, .ref m4, .ref m5, .ref m6, .ref m7, .int wc, .ref m8])), (m1, .inl (cJ, 500, .inr (.inl up))), (m2, .inl (cJ, 500, .inr (.inl dn))), (m3, .inl (cI, 500, .inl mu)), (m4, .inl (cI, 4, .inl rw_))]) [0, 1, 2, 3, 4] rfl
          have hD9 := hD.sub (ws' := [(g, .inr (2, [.int 0, .int am, .ref m1, .ref m2, .ref m3, .ref m4, .ref m5, .ref m6, .ref m7, .int wc, .ref m8])), (m1, .inl (cJ, 500, .inr (.inl up))), (m2, .inl (cJ, 500, .inr (.inl dn))), (m3, .inl (cI, 500, .inl mu)), (m4, .inl (cI, 4, .inl rw_))]) [0, 1, 2, 3, 4] (by decide) rfl
          have hz : ((mu a.toNatClampNeg).toInt64, (0, up, dn, mu, am)) = f_M_told up dn mu am rw_ wc a wh := by unfold f_M_told; rw [if_neg c_1, if_neg c_3, if_pos c_5, if_neg c_6]
          exact W.lret (v := (mu a.toNatClampNeg).toInt64) hx hb hr (fun t ht hW => ⟨⟨(mu a.toNatClampNeg).toInt64, (0, up, dn, mu, am), rfl, hz, wb_of ht hW hP9 hK hD9⟩, hS.F ht⟩) hS.2.2 d_M_told_107
      · skip
        by_cases c_7 : wh = 3
        · skip
          refine lv_tableIn (off := 102) (tgt := 108) hx hb d_M_told_6 (by rw [c_7]; decide) (by rw [c_7]; decide) (by rw [c_7]; rfl) (by decide) ?_
          refine lv_aload_n hx hb d_M_told_108 rfl (lv_at hl 0 rfl) ?_
          refine va_get (D := (dC, dI)) (ci := 2) (v := .int am) (C := R_M) (T := F_M) (N := 11) hx hb hg in_M hown hK hP 0 rfl rfl 1 (by decide) (hg _ wg_267) (fun _ h9 => h9) rfl d_M_told_109 ?_
          refine lv_i2l hx hb d_M_told_112 rfl ?_
          have hP9 := hP.sub (ws' := [(g, .inr (2, [.int 0, .int am, .ref m1, .ref m2, .ref m3, .ref m4, .ref m5, .ref m6, .ref m7, .int wc, .ref m8])), (m1, .inl (cJ, 500, .inr (.inl up))), (m2, .inl (cJ, 500, .inr (.inl dn))), (m3, .inl (cI, 500, .inl mu)), (m4, .inl (cI, 4, .inl rw_))]) [0, 1, 2, 3, 4] rfl
          have hD9 := hD.sub (ws' := [(g, .inr (2, [.int 0, .int am, .ref m1, .ref m2, .ref m3, .ref m4, .ref m5, .ref m6, .ref m7, .int wc, .ref m8])), (m1, .inl (cJ, 500, .inr (.inl up))), (m2, .inl (cJ, 500, .inr (.inl dn))), (m3, .inl (cI, 500, .inl mu)), (m4, .inl (cI, 4, .inl rw_))]) [0, 1, 2, 3, 4] (by decide) rfl
          have hz : (am.toInt64, (0, up, dn, mu, am)) = f_M_told up dn mu am rw_ wc a wh := by unfold f_M_told; rw [if_neg c_1, if_neg c_3, if_neg c_5, if_pos c_7]
          exact W.lret (v := am.toInt64) hx hb hr (fun t ht hW => ⟨⟨am.toInt64, (0, up, dn, mu, am), rfl, hz, wb_of ht hW hP9 hK hD9⟩, hS.F ht⟩) hS.2.2 d_M_told_113
        · skip
          by_cases c_8 : wh = 4
          · skip
            refine lv_tableIn (off := 108) (tgt := 114) hx hb d_M_told_6 (by rw [c_8]; decide) (by rw [c_8]; decide) (by rw [c_8]; rfl) (by decide) ?_
            refine lv_aload_n hx hb d_M_told_114 rfl (lv_at hl 0 rfl) ?_
            refine va_get (D := (dC, dI)) (ci := 2) (v := .int wc) (C := R_M) (T := F_M) (N := 11) hx hb hg in_M hown hK hP 0 rfl rfl 9 (by decide) (hg _ wg_275) (fun _ h9 => h9) rfl d_M_told_115 ?_
            refine lv_i2l hx hb d_M_told_118 rfl ?_
            have hP9 := hP.sub (ws' := [(g, .inr (2, [.int 0, .int am, .ref m1, .ref m2, .ref m3, .ref m4, .ref m5, .ref m6, .ref m7, .int wc, .ref m8])), (m1, .inl (cJ, 500, .inr (.inl up))), (m2, .inl (cJ, 500, .inr (.inl dn))), (m3, .inl (cI, 500, .inl mu)), (m4, .inl (cI, 4, .inl rw_))]) [0, 1, 2, 3, 4] rfl
            have hD9 := hD.sub (ws' := [(g, .inr (2, [.int 0, .int am, .ref m1, .ref m2, .ref m3, .ref m4, .ref m5, .ref m6, .ref m7, .int wc, .ref m8])), (m1, .inl (cJ, 500, .inr (.inl up))), (m2, .inl (cJ, 500, .inr (.inl dn))), (m3, .inl (cI, 500, .inl mu)), (m4, .inl (cI, 4, .inl rw_))]) [0, 1, 2, 3, 4] (by decide) rfl
            have hz : (wc.toInt64, (0, up, dn, mu, am)) = f_M_told up dn mu am rw_ wc a wh := by unfold f_M_told; rw [if_neg c_1, if_neg c_3, if_neg c_5, if_neg c_7, if_pos c_8]
            exact W.lret (v := wc.toInt64) hx hb hr (fun t ht hW => ⟨⟨wc.toInt64, (0, up, dn, mu, am), rfl, hz, wb_of ht hW hP9 hK hD9⟩, hS.F ht⟩) hS.2.2 d_M_told_119
          · skip
            by_cases c_9 : wh = 5
            · skip
              refine lv_tableIn (off := 114) (tgt := 120) hx hb d_M_told_6 (by rw [c_9]; decide) (by rw [c_9]; decide) (by rw [c_9]; rfl) (by decide) ?_
              refine lv_iload_n hx hb d_M_told_120 rfl (lv_at hl 1 rfl) ?_
              refine lv_if_lt (tgt := 139) hx hb d_M_told_121 (by decide) (fun c_10 => ?_) (fun c_10 => ?_)
              · skip
                refine lv_ldc2 (v := (-9)) hx hb hown (hg _ wg_371) d_M_told_139 ?_
                have hP9 := hP.sub (ws' := [(g, .inr (2, [.int 0, .int am, .ref m1, .ref m2, .ref m3, .ref m4, .ref m5, .ref m6, .ref m7, .int wc, .ref m8])), (m1, .inl (cJ, 500, .inr (.inl up))), (m2, .inl (cJ, 500, .inr (.inl dn))), (m3, .inl (cI, 500, .inl mu)), (m4, .inl (cI, 4, .inl rw_))]) [0, 1, 2, 3, 4] rfl
                have hD9 := hD.sub (ws' := [(g, .inr (2, [.int 0, .int am, .ref m1, .ref m2, .ref m3, .ref m4, .ref m5, .ref m6, .ref m7, .int wc, .ref m8])), (m1, .inl (cJ, 500, .inr (.inl up))), (m2, .inl (cJ, 500, .inr (.inl dn))), (m3, .inl (cI, 500, .inl mu)), (m4, .inl (cI, 4, .inl rw_))]) [0, 1, 2, 3, 4] (by decide) rfl
                have hz : ((-9), (0, up, dn, mu, am)) = f_M_told up dn mu am rw_ wc a wh := by unfold f_M_told; rw [if_neg c_1, if_neg c_3, if_neg c_5, if_neg c_7, if_neg c_8, if_pos c_9, if_pos c_10]
                exact W.lret (v := (-9)) hx hb hr (fun t ht hW => ⟨⟨(-9), (0, up, dn, mu, am), rfl, hz, wb_of ht hW hP9 hK hD9⟩, hS.F ht⟩) hS.2.2 d_M_told_142
              · skip
                refine lv_iload_n hx hb d_M_told_124 rfl (lv_at hl 1 rfl) ?_
                refine lv_iconst (v := 4) hx hb d_M_told_125 (by decide) ?_
                refine lv_icmp_ge (tgt := 139) hx hb d_M_told_126 (by decide) (fun c_11 => ?_) (fun c_11 => ?_)
                · skip
                  refine lv_ldc2 (v := (-9)) hx hb hown (hg _ wg_371) d_M_told_139 ?_
                  have hP9 := hP.sub (ws' := [(g, .inr (2, [.int 0, .int am, .ref m1, .ref m2, .ref m3, .ref m4, .ref m5, .ref m6, .ref m7, .int wc, .ref m8])), (m1, .inl (cJ, 500, .inr (.inl up))), (m2, .inl (cJ, 500, .inr (.inl dn))), (m3, .inl (cI, 500, .inl mu)), (m4, .inl (cI, 4, .inl rw_))]) [0, 1, 2, 3, 4] rfl
                  have hD9 := hD.sub (ws' := [(g, .inr (2, [.int 0, .int am, .ref m1, .ref m2, .ref m3, .ref m4, .ref m5, .ref m6, .ref m7, .int wc, .ref m8])), (m1, .inl (cJ, 500, .inr (.inl up))), (m2, .inl (cJ, 500, .inr (.inl dn))), (m3, .inl (cI, 500, .inl mu)), (m4, .inl (cI, 4, .inl rw_))]) [0, 1, 2, 3, 4] (by decide) rfl
                  have hz : ((-9), (0, up, dn, mu, am)) = f_M_told up dn mu am rw_ wc a wh := by unfold f_M_told; rw [if_neg c_1, if_neg c_3, if_neg c_5, if_neg c_7, if_neg c_8, if_pos c_9, if_neg c_10, if_pos c_11]
                  exact W.lret (v := (-9)) hx hb hr (fun t ht hW => ⟨⟨(-9), (0, up, dn, mu, am), rfl, hz, wb_of ht hW hP9 hK hD9⟩, hS.F ht⟩) hS.2.2 d_M_told_142
                · skip
                  refine lv_aload_n hx hb d_M_told_129 rfl (lv_at hl 0 rfl) ?_
                  refine va_get (D := (dC, dI)) (ci := 2) (v := .ref m4) (C := R_M) (T := F_M) (N := 11) hx hb hg in_M hown hK hP 0 rfl rfl 5 (by decide) (hg _ wg_271) (fun _ h9 => h9) rfl d_M_told_130 ?_
                  refine lv_iload_n hx hb d_M_told_133 rfl (lv_at hl 1 rfl) ?_
                  refine va_iald hx hb hK hP 4 1 rfl rfl (in_nle c_10 c_11 (by decide)) d_M_told_134 ?_
                  refine lv_i2l hx hb d_M_told_135 rfl ?_
                  refine lv_goto (tgt := 142) hx hb d_M_told_136 (by decide) ?_
                  have hP9 := hP.sub (ws' := [(g, .inr (2, [.int 0, .int am, .ref m1, .ref m2, .ref m3, .ref m4, .ref m5, .ref m6, .ref m7, .int wc, .ref m8])), (m1, .inl (cJ, 500, .inr (.inl up))), (m2, .inl (cJ, 500, .inr (.inl dn))), (m3, .inl (cI, 500, .inl mu)), (m4, .inl (cI, 4, .inl rw_))]) [0, 1, 2, 3, 4] rfl
                  have hD9 := hD.sub (ws' := [(g, .inr (2, [.int 0, .int am, .ref m1, .ref m2, .ref m3, .ref m4, .ref m5, .ref m6, .ref m7, .int wc, .ref m8])), (m1, .inl (cJ, 500, .inr (.inl up))), (m2, .inl (cJ, 500, .inr (.inl dn))), (m3, .inl (cI, 500, .inl mu)), (m4, .inl (cI, 4, .inl rw_))]) [0, 1, 2, 3, 4] (by decide) rfl
                  have hz : ((rw_ a.toNatClampNeg).toInt64, (0, up, dn, mu, am)) = f_M_told up dn mu am rw_ wc a wh := by unfold f_M_told; rw [if_neg c_1, if_neg c_3, if_neg c_5, if_neg c_7, if_neg c_8, if_pos c_9, if_neg c_10, if_neg c_11]
                  exact W.lret (v := (rw_ a.toNatClampNeg).toInt64) hx hb hr (fun t ht hW => ⟨⟨(rw_ a.toNatClampNeg).toInt64, (0, up, dn, mu, am), rfl, hz, wb_of ht hW hP9 hK hD9⟩, hS.F ht⟩) hS.2.2 d_M_told_142
            · skip
              refine lv_tableOut (tgt := 143) hx hb d_M_told_6 (by have n0 := lv_neT (a := 0) c_1 rfl; have n1 := lv_neT (a := 1) c_3 rfl; have n2 := lv_neT (a := 2) c_5 rfl; have n3 := lv_neT (a := 3) c_7 rfl; have n4 := lv_neT (a := 4) c_8 rfl; have n5 := lv_neT (a := 5) c_9 rfl; omega) (by decide) ?_
              refine lv_ldc2 (v := (-9)) hx hb hown (hg _ wg_371) d_M_told_143 ?_
              have hP9 := hP.sub (ws' := [(g, .inr (2, [.int 0, .int am, .ref m1, .ref m2, .ref m3, .ref m4, .ref m5, .ref m6, .ref m7, .int wc, .ref m8])), (m1, .inl (cJ, 500, .inr (.inl up))), (m2, .inl (cJ, 500, .inr (.inl dn))), (m3, .inl (cI, 500, .inl mu)), (m4, .inl (cI, 4, .inl rw_))]) [0, 1, 2, 3, 4] rfl
              have hD9 := hD.sub (ws' := [(g, .inr (2, [.int 0, .int am, .ref m1, .ref m2, .ref m3, .ref m4, .ref m5, .ref m6, .ref m7, .int wc, .ref m8])), (m1, .inl (cJ, 500, .inr (.inl up))), (m2, .inl (cJ, 500, .inr (.inl dn))), (m3, .inl (cI, 500, .inl mu)), (m4, .inl (cI, 4, .inl rw_))]) [0, 1, 2, 3, 4] (by decide) rfl
              have hz : ((-9), (0, up, dn, mu, am)) = f_M_told up dn mu am rw_ wc a wh := by unfold f_M_told; rw [if_neg c_1, if_neg c_3, if_neg c_5, if_neg c_7, if_neg c_8, if_neg c_9]
              exact W.lret (v := (-9)) hx hb hr (fun t ht hW => ⟨⟨(-9), (0, up, dn, mu, am), rfl, hz, wb_of ht hW hP9 hK hD9⟩, hS.F ht⟩) hS.2.2 d_M_told_146
def f_M_row (rw_ : Nat → Int32) (mx my bl : Nat → Int64) (t_ : Int32) (x y b : Int64) : Int32 × Int32 × (Nat → Int32) × (Nat → Int64) × (Nat → Int64) × (Nat → Int64) := if t_ < 0 then (0, (0, rw_, mx, my, bl)) else if 4 ≤ t_ then (0, (0, rw_, mx, my, bl)) else if (rw_ t_.toNatClampNeg) = 16 then (0, (0, rw_, mx, my, bl)) else if b < 1 then (0, (0, rw_, mx, my, bl)) else if 100 < b then (0, (0, rw_, mx, my, bl)) else if (f_M_isNear x) = 0 then (0, (0, rw_, mx, my, bl)) else if (f_M_isNear y) = 0 then (0, (0, rw_, mx, my, bl)) else if (rw_ t_.toNatClampNeg) ≤ 0 then (1, (0, upd rw_ t_.toNatClampNeg ((rw_ t_.toNatClampNeg) + 1), vp_updL mx ((16 * t_) + (rw_ t_.toNatClampNeg)).toNatClampNeg x, vp_updL my ((16 * t_) + (rw_ t_.toNatClampNeg)).toNatClampNeg y, vp_updL bl t_.toNatClampNeg b)) else if b = (bl t_.toNatClampNeg) then if (mx (((16 * t_) + (rw_ t_.toNatClampNeg)) - 1).toNatClampNeg) < x then (1, (0, upd rw_ t_.toNatClampNeg ((rw_ t_.toNatClampNeg) + 1), vp_updL mx ((16 * t_) + (rw_ t_.toNatClampNeg)).toNatClampNeg x, vp_updL my ((16 * t_) + (rw_ t_.toNatClampNeg)).toNatClampNeg y, vp_updL bl t_.toNatClampNeg b)) else (0, (0, rw_, mx, my, bl)) else (0, (0, rw_, mx, my, bl))
set_option maxHeartbeats 4000000 in
set_option maxRecDepth 100000 in
theorem k_M_row (l : Launch) (dC : Nat → ClassId) (dI : Nat → Nat → Nat) (cJ cI cT : ClassId) (g m1 m2 m3 m4 m5 m6 m7 m8 : Nat) (cd am wc : Int32) (rw_ : Nat → Int32) (mx my bl : Nat → Int64) (t_ : Int32) (x y b : Int64) (sz : Nat) (hr4 : ∀ j : Nat, j < 4 → 0 ≤ (rw_ j).toInt ∧ (rw_ j).toInt ≤ 16) : Met l y_M_row w_M_row ({ frames := 1, cells := 0, slots := 0, locals := 21 }) (va_Pc [.ref g, .int t_, .long x, .long y, .long b] (wx dC dI cJ cI cT sz [(g, .inr (2, [.int cd, .int am, .ref m1, .ref m2, .ref m3, .ref m4, .ref m5, .ref m6, .ref m7, .int wc, .ref m8])), (m4, .inl (cI, 4, .inl rw_)), (m5, .inl (cJ, 64, .inr (.inl mx))), (m6, .inl (cJ, 64, .inr (.inl my))), (m7, .inl (cJ, 4, .inr (.inl bl)))])) (va_Qi (fun (r9 : Int32) (u9 : Int32 × (Nat → Int32) × (Nat → Int64) × (Nat → Int64) × (Nat → Int64)) => (r9, u9) = f_M_row rw_ mx my bl t_ x y b) (fun u => wb dC dI cJ cI cT (va_A [(g, .inr (2, [.int cd, .int am, .ref m1, .ref m2, .ref m3, .ref m4, .ref m5, .ref m6, .ref m7, .int wc, .ref m8])), (m4, .inl (cI, 4, .inl rw_)), (m5, .inl (cJ, 64, .inr (.inl mx))), (m6, .inl (cJ, 64, .inr (.inl my))), (m7, .inl (cJ, 4, .inr (.inl bl)))] sz) [(g, .inr (2, [.int u.1, .int am, .ref m1, .ref m2, .ref m3, .ref m4, .ref m5, .ref m6, .ref m7, .int wc, .ref m8])), (m4, .inl (cI, 4, .inl u.2.1)), (m5, .inl (cJ, 64, .inr (.inl u.2.2.1))), (m6, .inl (cJ, 64, .inr (.inl u.2.2.2.1))), (m7, .inl (cJ, 4, .inr (.inl u.2.2.2.2)))]) (va_A [(g, .inr (2, [.int cd, .int am, .ref m1, .ref m2, .ref m3, .ref m4, .ref m5, .ref m6, .ref m7, .int wc, .ref m8])), (m4, .inl (cI, 4, .inl rw_)), (m5, .inl (cJ, 64, .inr (.inl mx))), (m6, .inl (cJ, 64, .inr (.inl my))), (m7, .inl (cJ, 4, .inr (.inl bl)))] sz)) 0 0 (va_A [(g, .inr (2, [.int cd, .int am, .ref m1, .ref m2, .ref m3, .ref m4, .ref m5, .ref m6, .ref m7, .int wc, .ref m8])), (m4, .inl (cI, 4, .inl rw_)), (m5, .inl (cJ, 64, .inr (.inl mx))), (m6, .inl (cJ, 64, .inr (.inl my))), (m7, .inl (cJ, 4, .inr (.inl bl)))] sz) := by
  refine Met.ofW (cc := c_M_row) (maxL := 9) (ret := (Option.some Jvm.ClassFile.FieldType.boolean)) (by decide) rfl ?_
  intro p e s m args below meth c s₁ B hml hv
  obtain ⟨rfl, hsz, hP, hK, hD0⟩ := hv
  have hx := B.exec
  have hb := B.bytes
  have hr := B.returns
  have hts := atoms_spec (ws := w_M_row) B.pre
  have hg : ∀ w ∈ WG, w.before _ s = true := fun w h => hts w (List.mem_cons_of_mem _ h)
  have hown : s.vm.findClass R_M = some m.cls := findClass_of_methodNamed B.named
  have hlocks := B.notSynchronized
  have hl := lv_entry ([.ref g, .int t_, .long x, .long y, .long b]) (n := 9) (Nat.le_of_ble_eq_true rfl)
  rw [lg_entry_eq]
  generalize (lg_sl ([.ref g, .int t_, .long x, .long y, .long b]) ++ List.replicate (9 - (lg_sl ([.ref g, .int t_, .long x, .long y, .long b])).length) Slot.unset).toArray = ls at hl ⊢
  have hl : lv_has ls 9 [(0, .ref g), (1, .int t_), (2, .long x), (4, .long y), (6, .long b)] := hl
  subst hsz
  have hD := hD0.self (sz := s.heap.size)
  generalize hAe : va_A [(g, .inr (2, [.int cd, .int am, .ref m1, .ref m2, .ref m3, .ref m4, .ref m5, .ref m6, .ref m7, .int wc, .ref m8])), (m4, .inl (cI, 4, .inl rw_)), (m5, .inl (cJ, 64, .inr (.inl mx))), (m6, .inl (cJ, 64, .inr (.inl my))), (m7, .inl (cJ, 4, .inr (.inl bl)))] s.heap.size = A at hD ⊢
  have hA : ∀ q : Nat, s.heap.size ≤ q → A q := fun q h => by rw [← hAe]; exact Or.inr h
  have hS : va_S A s.heap s.heap [] := va_S.rf
  have hP : va_P (dC, dI) classes [(g, .inr (2, [.int cd, .int am, .ref m1, .ref m2, .ref m3, .ref m4, .ref m5, .ref m6, .ref m7, .int wc, .ref m8])), (m4, .inl (cI, 4, .inl rw_)), (m5, .inl (cJ, 64, .inr (.inl mx))), (m6, .inl (cJ, 64, .inr (.inl my))), (m7, .inl (cJ, 4, .inr (.inl bl)))] s.heap := hP
  have hD : va_D A [(g, .inr (2, [.int cd, .int am, .ref m1, .ref m2, .ref m3, .ref m4, .ref m5, .ref m6, .ref m7, .int wc, .ref m8])), (m4, .inl (cI, 4, .inl rw_)), (m5, .inl (cJ, 64, .inr (.inl mx))), (m6, .inl (cJ, 64, .inr (.inl my))), (m7, .inl (cJ, 4, .inr (.inl bl)))] := hD
  skip
  refine lv_aload_n hx hb d_M_row_0 rfl (lv_at hl 0 rfl) ?_
  refine lv_iconst (v := 0) hx hb d_M_row_1 (by decide) ?_
  refine va_put (D := (dC, dI)) (ci := 2) (v := .int 0) (ty := .int) (C := R_M) (T := F_M) (N := 11) hx hb hg in_M tt_M tt_M_ok nn_M hown hK hP hD hS 0 rfl rfl 0 (by decide) (hg _ wg_266) (fun _ h9 => h9) rfl (by decide +kernel) rfl rfl (Nat.le_of_ble_eq_true rfl) d_M_row_2 (fun H locs hP hD hS => ?_)
  have hP : va_P (dC, dI) classes [(g, .inr (2, [.int 0, .int am, .ref m1, .ref m2, .ref m3, .ref m4, .ref m5, .ref m6, .ref m7, .int wc, .ref m8])), (m4, .inl (cI, 4, .inl rw_)), (m5, .inl (cJ, 64, .inr (.inl mx))), (m6, .inl (cJ, 64, .inr (.inl my))), (m7, .inl (cJ, 4, .inr (.inl bl)))] H := hP
  have hD : va_D A [(g, .inr (2, [.int 0, .int am, .ref m1, .ref m2, .ref m3, .ref m4, .ref m5, .ref m6, .ref m7, .int wc, .ref m8])), (m4, .inl (cI, 4, .inl rw_)), (m5, .inl (cJ, 64, .inr (.inl mx))), (m6, .inl (cJ, 64, .inr (.inl my))), (m7, .inl (cJ, 4, .inr (.inl bl)))] := hD
  refine lv_iload_n hx hb d_M_row_5 rfl (lv_at hl 1 rfl) ?_
  refine lv_if_lt (tgt := 56) hx hb d_M_row_6 (by decide) (fun c_1 => ?_) (fun c_1 => ?_)
  · skip
    refine lv_iconst (v := 0) hx hb d_M_row_56 (by decide) ?_
    have hP9 := hP.sub (ws' := [(g, .inr (2, [.int 0, .int am, .ref m1, .ref m2, .ref m3, .ref m4, .ref m5, .ref m6, .ref m7, .int wc, .ref m8])), (m4, .inl (cI, 4, .inl rw_)), (m5, .inl (cJ, 64, .inr (.inl mx))), (m6, .inl (cJ, 64, .inr (.inl my))), (m7, .inl (cJ, 4, .inr (.inl bl)))]) [0, 1, 2, 3, 4] rfl
    have hD9 := hD.sub (ws' := [(g, .inr (2, [.int 0, .int am, .ref m1, .ref m2, .ref m3, .ref m4, .ref m5, .ref m6, .ref m7, .int wc, .ref m8])), (m4, .inl (cI, 4, .inl rw_)), (m5, .inl (cJ, 64, .inr (.inl mx))), (m6, .inl (cJ, 64, .inr (.inl my))), (m7, .inl (cJ, 4, .inr (.inl bl)))]) [0, 1, 2, 3, 4] (by decide) rfl
    have hz : (0, (0, rw_, mx, my, bl)) = f_M_row rw_ mx my bl t_ x y b := by unfold f_M_row; rw [if_pos c_1]
    exact W.zret (v := 0) hx hb hr rfl (fun t ht hW => ⟨⟨0, (0, rw_, mx, my, bl), rfl, hz, wb_of ht hW hP9 hK hD9⟩, hS.F ht⟩) hS.2.2 d_M_row_57
  · skip
    refine lv_iload_n hx hb d_M_row_9 rfl (lv_at hl 1 rfl) ?_
    refine lv_iconst (v := 4) hx hb d_M_row_10 (by decide) ?_
    refine lv_icmp_ge (tgt := 56) hx hb d_M_row_11 (by decide) (fun c_2 => ?_) (fun c_2 => ?_)
    · skip
      refine lv_iconst (v := 0) hx hb d_M_row_56 (by decide) ?_
      have hP9 := hP.sub (ws' := [(g, .inr (2, [.int 0, .int am, .ref m1, .ref m2, .ref m3, .ref m4, .ref m5, .ref m6, .ref m7, .int wc, .ref m8])), (m4, .inl (cI, 4, .inl rw_)), (m5, .inl (cJ, 64, .inr (.inl mx))), (m6, .inl (cJ, 64, .inr (.inl my))), (m7, .inl (cJ, 4, .inr (.inl bl)))]) [0, 1, 2, 3, 4] rfl
      have hD9 := hD.sub (ws' := [(g, .inr (2, [.int 0, .int am, .ref m1, .ref m2, .ref m3, .ref m4, .ref m5, .ref m6, .ref m7, .int wc, .ref m8])), (m4, .inl (cI, 4, .inl rw_)), (m5, .inl (cJ, 64, .inr (.inl mx))), (m6, .inl (cJ, 64, .inr (.inl my))), (m7, .inl (cJ, 4, .inr (.inl bl)))]) [0, 1, 2, 3, 4] (by decide) rfl
      have hz : (0, (0, rw_, mx, my, bl)) = f_M_row rw_ mx my bl t_ x y b := by unfold f_M_row; rw [if_neg c_1, if_pos c_2]
      exact W.zret (v := 0) hx hb hr rfl (fun t ht hW => ⟨⟨0, (0, rw_, mx, my, bl), rfl, hz, wb_of ht hW hP9 hK hD9⟩, hS.F ht⟩) hS.2.2 d_M_row_57
    · skip
      refine lv_aload_n hx hb d_M_row_14 rfl (lv_at hl 0 rfl) ?_
      refine va_get (D := (dC, dI)) (ci := 2) (v := .ref m4) (C := R_M) (T := F_M) (N := 11) hx hb hg in_M hown hK hP 0 rfl rfl 5 (by decide) (hg _ wg_271) (fun _ h9 => h9) rfl d_M_row_15 ?_
      refine lv_iload_n hx hb d_M_row_18 rfl (lv_at hl 1 rfl) ?_
      refine va_iald hx hb hK hP 1 1 rfl rfl (in_nle c_1 c_2 (by decide)) d_M_row_19 ?_
      refine lv_bipush (v := 16) hx hb d_M_row_20 (by decide) ?_
      refine lv_icmp_eq (tgt := 56) hx hb d_M_row_22 (by decide) (fun c_3 => ?_) (fun c_3 => ?_)
      · skip
        refine lv_iconst (v := 0) hx hb d_M_row_56 (by decide) ?_
        have hP9 := hP.sub (ws' := [(g, .inr (2, [.int 0, .int am, .ref m1, .ref m2, .ref m3, .ref m4, .ref m5, .ref m6, .ref m7, .int wc, .ref m8])), (m4, .inl (cI, 4, .inl rw_)), (m5, .inl (cJ, 64, .inr (.inl mx))), (m6, .inl (cJ, 64, .inr (.inl my))), (m7, .inl (cJ, 4, .inr (.inl bl)))]) [0, 1, 2, 3, 4] rfl
        have hD9 := hD.sub (ws' := [(g, .inr (2, [.int 0, .int am, .ref m1, .ref m2, .ref m3, .ref m4, .ref m5, .ref m6, .ref m7, .int wc, .ref m8])), (m4, .inl (cI, 4, .inl rw_)), (m5, .inl (cJ, 64, .inr (.inl mx))), (m6, .inl (cJ, 64, .inr (.inl my))), (m7, .inl (cJ, 4, .inr (.inl bl)))]) [0, 1, 2, 3, 4] (by decide) rfl
        have hz : (0, (0, rw_, mx, my, bl)) = f_M_row rw_ mx my bl t_ x y b := by unfold f_M_row; rw [if_neg c_1, if_neg c_2, if_pos c_3]
        exact W.zret (v := 0) hx hb hr rfl (fun t ht hW => ⟨⟨0, (0, rw_, mx, my, bl), rfl, hz, wb_of ht hW hP9 hK hD9⟩, hS.F ht⟩) hS.2.2 d_M_row_57
      · skip
        refine lv_lload hx hb d_M_row_25 (lv_at hl 4 rfl) ?_
        refine lv_lconst (v := 1) hx hb d_M_row_27 (by decide) ?_
        refine W.lcmp hx hb d_M_row_28 ?_
        refine lv_if_lt (tgt := 56) hx hb d_M_row_29 (by decide) (fun c_4 => ?_) (fun c_4 => ?_)
        · skip
          rw [lg_cmp_lt] at c_4
          refine lv_iconst (v := 0) hx hb d_M_row_56 (by decide) ?_
          have hP9 := hP.sub (ws' := [(g, .inr (2, [.int 0, .int am, .ref m1, .ref m2, .ref m3, .ref m4, .ref m5, .ref m6, .ref m7, .int wc, .ref m8])), (m4, .inl (cI, 4, .inl rw_)), (m5, .inl (cJ, 64, .inr (.inl mx))), (m6, .inl (cJ, 64, .inr (.inl my))), (m7, .inl (cJ, 4, .inr (.inl bl)))]) [0, 1, 2, 3, 4] rfl
          have hD9 := hD.sub (ws' := [(g, .inr (2, [.int 0, .int am, .ref m1, .ref m2, .ref m3, .ref m4, .ref m5, .ref m6, .ref m7, .int wc, .ref m8])), (m4, .inl (cI, 4, .inl rw_)), (m5, .inl (cJ, 64, .inr (.inl mx))), (m6, .inl (cJ, 64, .inr (.inl my))), (m7, .inl (cJ, 4, .inr (.inl bl)))]) [0, 1, 2, 3, 4] (by decide) rfl
          have hz : (0, (0, rw_, mx, my, bl)) = f_M_row rw_ mx my bl t_ x y b := by unfold f_M_row; rw [if_neg c_1, if_neg c_2, if_neg c_3, if_pos c_4]
          exact W.zret (v := 0) hx hb hr rfl (fun t ht hW => ⟨⟨0, (0, rw_, mx, my, bl), rfl, hz, wb_of ht hW hP9 hK hD9⟩, hS.F ht⟩) hS.2.2 d_M_row_57
        · skip
          rw [lg_cmp_lt] at c_4
          refine lv_lload hx hb d_M_row_32 (lv_at hl 4 rfl) ?_
          refine lv_ldc2 (v := 100) hx hb hown (hg _ wg_341) d_M_row_34 ?_
          refine W.lcmp hx hb d_M_row_37 ?_
          refine lv_if_gt (tgt := 56) hx hb d_M_row_38 (by decide) (fun c_5 => ?_) (fun c_5 => ?_)
          · skip
            rw [lg_cmp_gt] at c_5
            refine lv_iconst (v := 0) hx hb d_M_row_56 (by decide) ?_
            have hP9 := hP.sub (ws' := [(g, .inr (2, [.int 0, .int am, .ref m1, .ref m2, .ref m3, .ref m4, .ref m5, .ref m6, .ref m7, .int wc, .ref m8])), (m4, .inl (cI, 4, .inl rw_)), (m5, .inl (cJ, 64, .inr (.inl mx))), (m6, .inl (cJ, 64, .inr (.inl my))), (m7, .inl (cJ, 4, .inr (.inl bl)))]) [0, 1, 2, 3, 4] rfl
            have hD9 := hD.sub (ws' := [(g, .inr (2, [.int 0, .int am, .ref m1, .ref m2, .ref m3, .ref m4, .ref m5, .ref m6, .ref m7, .int wc, .ref m8])), (m4, .inl (cI, 4, .inl rw_)), (m5, .inl (cJ, 64, .inr (.inl mx))), (m6, .inl (cJ, 64, .inr (.inl my))), (m7, .inl (cJ, 4, .inr (.inl bl)))]) [0, 1, 2, 3, 4] (by decide) rfl
            have hz : (0, (0, rw_, mx, my, bl)) = f_M_row rw_ mx my bl t_ x y b := by unfold f_M_row; rw [if_neg c_1, if_neg c_2, if_neg c_3, if_neg c_4, if_pos c_5]
            exact W.zret (v := 0) hx hb hr rfl (fun t ht hW => ⟨⟨0, (0, rw_, mx, my, bl), rfl, hz, wb_of ht hW hP9 hK hD9⟩, hS.F ht⟩) hS.2.2 d_M_row_57
          · skip
            rw [lg_cmp_gt] at c_5
            refine lv_lload_n hx hb d_M_row_41 rfl (lv_at hl 2 rfl) ?_
            refine W.callV (W.runS (As := [.long x]) (rest := []) ⟨hx, hb, hml, hown, hg⟩ (k_M_isNear l x) (q_S 1 hg wg_344 wg_342 wg_343 wg_15 rfl rfl (by decide +kernel) ⟨Nat.le_of_ble_eq_true rfl, Nat.le_of_ble_eq_true rfl⟩) ⟨nw_blind, fun _ _ _ => ⟨rfl, trivial⟩⟩ rfl rfl hl.1 rfl (lv_room (Nat.le_of_ble_eq_true rfl)) d_M_row_42 ⟨Nat.le_of_ble_eq_true rfl, Nat.le_of_ble_eq_true rfl⟩) ?_
            refine W.eq (g2 := F0 m 45 ls (.int (f_M_isNear x) :: [])) rfl ?_
            refine lv_if_eq (tgt := 56) hx hb d_M_row_45 (by decide) (fun c_6 => ?_) (fun c_6 => ?_)
            · skip
              refine lv_iconst (v := 0) hx hb d_M_row_56 (by decide) ?_
              have hP9 := hP.sub (ws' := [(g, .inr (2, [.int 0, .int am, .ref m1, .ref m2, .ref m3, .ref m4, .ref m5, .ref m6, .ref m7, .int wc, .ref m8])), (m4, .inl (cI, 4, .inl rw_)), (m5, .inl (cJ, 64, .inr (.inl mx))), (m6, .inl (cJ, 64, .inr (.inl my))), (m7, .inl (cJ, 4, .inr (.inl bl)))]) [0, 1, 2, 3, 4] rfl
              have hD9 := hD.sub (ws' := [(g, .inr (2, [.int 0, .int am, .ref m1, .ref m2, .ref m3, .ref m4, .ref m5, .ref m6, .ref m7, .int wc, .ref m8])), (m4, .inl (cI, 4, .inl rw_)), (m5, .inl (cJ, 64, .inr (.inl mx))), (m6, .inl (cJ, 64, .inr (.inl my))), (m7, .inl (cJ, 4, .inr (.inl bl)))]) [0, 1, 2, 3, 4] (by decide) rfl
              have hz : (0, (0, rw_, mx, my, bl)) = f_M_row rw_ mx my bl t_ x y b := by unfold f_M_row; rw [if_neg c_1, if_neg c_2, if_neg c_3, if_neg c_4, if_neg c_5, if_pos c_6]
              exact W.zret (v := 0) hx hb hr rfl (fun t ht hW => ⟨⟨0, (0, rw_, mx, my, bl), rfl, hz, wb_of ht hW hP9 hK hD9⟩, hS.F ht⟩) hS.2.2 d_M_row_57
            · skip
              refine lv_lload hx hb d_M_row_48 (lv_at hl 3 rfl) ?_
              refine W.callV (W.runS (As := [.long y]) (rest := []) ⟨hx, hb, hml, hown, hg⟩ (k_M_isNear l y) (q_S 1 hg wg_344 wg_342 wg_343 wg_15 rfl rfl (by decide +kernel) ⟨Nat.le_of_ble_eq_true rfl, Nat.le_of_ble_eq_true rfl⟩) ⟨nw_blind, fun _ _ _ => ⟨rfl, trivial⟩⟩ rfl rfl hl.1 rfl (lv_room (Nat.le_of_ble_eq_true rfl)) d_M_row_50 ⟨Nat.le_of_ble_eq_true rfl, Nat.le_of_ble_eq_true rfl⟩) ?_
              refine W.eq (g2 := F0 m 53 ls (.int (f_M_isNear y) :: [])) rfl ?_
              refine lv_if_ne (tgt := 58) hx hb d_M_row_53 (by decide) (fun c_7 => ?_) (fun c_7 => ?_)
              · skip
                refine lv_bipush (v := 16) hx hb d_M_row_58 (by decide) ?_
                refine lv_iload_n hx hb d_M_row_60 rfl (lv_at hl 1 rfl) ?_
                refine lv_imul hx hb d_M_row_61 ?_
                refine lv_aload_n hx hb d_M_row_62 rfl (lv_at hl 0 rfl) ?_
                refine va_get (D := (dC, dI)) (ci := 2) (v := .ref m4) (C := R_M) (T := F_M) (N := 11) hx hb hg in_M hown hK hP 0 rfl rfl 5 (by decide) (hg _ wg_271) (fun _ h9 => h9) rfl d_M_row_63 ?_
                refine lv_iload_n hx hb d_M_row_66 rfl (lv_at hl 1 rfl) ?_
                refine va_iald hx hb hK hP 1 1 rfl rfl (in_nle c_1 c_2 (by decide)) d_M_row_67 ?_
                refine lv_iadd hx hb d_M_row_68 ?_
                refine lv_topi (fun v_8 ev_8 => ?_)
                refine lv_istore (lv' := [(8, .int v_8), (0, .ref g), (1, .int t_), (2, .long x), (4, .long y), (6, .long b)]) hx hb d_M_row_69 hl (by decide) rfl (fun ls hl => ?_)
                refine lv_aload_n hx hb d_M_row_71 rfl (lv_at hl 1 rfl) ?_
                refine va_get (D := (dC, dI)) (ci := 2) (v := .ref m4) (C := R_M) (T := F_M) (N := 11) hx hb hg in_M hown hK hP 0 rfl rfl 5 (by decide) (hg _ wg_271) (fun _ h9 => h9) rfl d_M_row_72 ?_
                refine lv_iload_n hx hb d_M_row_75 rfl (lv_at hl 2 rfl) ?_
                refine va_iald hx hb hK hP 1 1 rfl rfl (in_nle c_1 c_2 (by decide)) d_M_row_76 ?_
                refine lv_if_le (tgt := 108) hx hb d_M_row_77 (by decide) (fun c_9 => ?_) (fun c_9 => ?_)
                · skip
                  refine lv_aload_n hx hb d_M_row_108 rfl (lv_at hl 1 rfl) ?_
                  refine va_get (D := (dC, dI)) (ci := 2) (v := .ref m7) (C := R_M) (T := F_M) (N := 11) hx hb hg in_M hown hK hP 0 rfl rfl 8 (by decide) (hg _ wg_274) (fun _ h9 => h9) rfl d_M_row_109 ?_
                  refine lv_iload_n hx hb d_M_row_112 rfl (lv_at hl 2 rfl) ?_
                  refine lv_lload hx hb d_M_row_113 (lv_at hl 5 rfl) ?_
                  refine va_last hx hb hK hP hD hS 4 0 rfl rfl (in_nle c_1 c_2 (by decide)) d_M_row_115 (fun H locs hP hD hS => ?_)
                  have hP : va_P (dC, dI) classes [(g, .inr (2, [.int 0, .int am, .ref m1, .ref m2, .ref m3, .ref m4, .ref m5, .ref m6, .ref m7, .int wc, .ref m8])), (m4, .inl (cI, 4, .inl rw_)), (m5, .inl (cJ, 64, .inr (.inl mx))), (m6, .inl (cJ, 64, .inr (.inl my))), (m7, .inl (cJ, 4, .inr (.inl (vp_updL bl t_.toNatClampNeg b))))] H := hP
                  have hD : va_D A [(g, .inr (2, [.int 0, .int am, .ref m1, .ref m2, .ref m3, .ref m4, .ref m5, .ref m6, .ref m7, .int wc, .ref m8])), (m4, .inl (cI, 4, .inl rw_)), (m5, .inl (cJ, 64, .inr (.inl mx))), (m6, .inl (cJ, 64, .inr (.inl my))), (m7, .inl (cJ, 4, .inr (.inl (vp_updL bl t_.toNatClampNeg b))))] := hD
                  refine lv_aload_n hx hb d_M_row_116 rfl (lv_at hl 1 rfl) ?_
                  refine va_get (D := (dC, dI)) (ci := 2) (v := .ref m5) (C := R_M) (T := F_M) (N := 11) hx hb hg in_M hown hK hP 0 rfl rfl 6 (by decide) (hg _ wg_272) (fun _ h9 => h9) rfl d_M_row_117 ?_
                  refine lv_iload hx hb d_M_row_120 (lv_at hl 0 rfl) ?_
                  refine lv_lload_n hx hb d_M_row_122 rfl (lv_at hl 3 rfl) ?_
                  refine va_last hx hb hK hP hD hS 2 0 rfl rfl (by rw [ev_8]; exact row_in c_1 c_2 (rw_b hr4 c_1 c_2).1 (rw_b hr4 c_1 c_2).2 c_3) d_M_row_123 (fun H locs hP hD hS => ?_)
                  have hP : va_P (dC, dI) classes [(g, .inr (2, [.int 0, .int am, .ref m1, .ref m2, .ref m3, .ref m4, .ref m5, .ref m6, .ref m7, .int wc, .ref m8])), (m4, .inl (cI, 4, .inl rw_)), (m5, .inl (cJ, 64, .inr (.inl (vp_updL mx v_8.toNatClampNeg x)))), (m6, .inl (cJ, 64, .inr (.inl my))), (m7, .inl (cJ, 4, .inr (.inl (vp_updL bl t_.toNatClampNeg b))))] H := hP
                  have hD : va_D A [(g, .inr (2, [.int 0, .int am, .ref m1, .ref m2, .ref m3, .ref m4, .ref m5, .ref m6, .ref m7, .int wc, .ref m8])), (m4, .inl (cI, 4, .inl rw_)), (m5, .inl (cJ, 64, .inr (.inl (vp_updL mx v_8.toNatClampNeg x)))), (m6, .inl (cJ, 64, .inr (.inl my))), (m7, .inl (cJ, 4, .inr (.inl (vp_updL bl t_.toNatClampNeg b))))] := hD
                  refine lv_aload_n hx hb d_M_row_124 rfl (lv_at hl 1 rfl) ?_
                  refine va_get (D := (dC, dI)) (ci := 2) (v := .ref m6) (C := R_M) (T := F_M) (N := 11) hx hb hg in_M hown hK hP 0 rfl rfl 7 (by decide) (hg _ wg_273) (fun _ h9 => h9) rfl d_M_row_125 ?_
                  refine lv_iload hx hb d_M_row_128 (lv_at hl 0 rfl) ?_
                  refine lv_lload hx hb d_M_row_130 (lv_at hl 4 rfl) ?_
                  refine va_last hx hb hK hP hD hS 3 0 rfl rfl (by rw [ev_8]; exact row_in c_1 c_2 (rw_b hr4 c_1 c_2).1 (rw_b hr4 c_1 c_2).2 c_3) d_M_row_132 (fun H locs hP hD hS => ?_)
                  have hP : va_P (dC, dI) classes [(g, .inr (2, [.int 0, .int am, .ref m1, .ref m2, .ref m3, .ref m4, .ref m5, .ref m6, .ref m7, .int wc, .ref m8])), (m4, .inl (cI, 4, .inl rw_)), (m5, .inl (cJ, 64, .inr (.inl (vp_updL mx v_8.toNatClampNeg x)))), (m6, .inl (cJ, 64, .inr (.inl (vp_updL my v_8.toNatClampNeg y)))), (m7, .inl (cJ, 4, .inr (.inl (vp_updL bl t_.toNatClampNeg b))))] H := hP
                  have hD : va_D A [(g, .inr (2, [.int 0, .int am, .ref m1, .ref m2, .ref m3, .ref m4, .ref m5, .ref m6, .ref m7, .int wc, .ref m8])), (m4, .inl (cI, 4, .inl rw_)), (m5, .inl (cJ, 64, .inr (.inl (vp_updL mx v_8.toNatClampNeg x)))), (m6, .inl (cJ, 64, .inr (.inl (vp_updL my v_8.toNatClampNeg y)))), (m7, .inl (cJ, 4, .inr (.inl (vp_updL bl t_.toNatClampNeg b))))] := hD
                  refine lv_aload_n hx hb d_M_row_133 rfl (lv_at hl 1 rfl) ?_
                  refine va_get (D := (dC, dI)) (ci := 2) (v := .ref m4) (C := R_M) (T := F_M) (N := 11) hx hb hg in_M hown hK hP 0 rfl rfl 5 (by decide) (hg _ wg_271) (fun _ h9 => h9) rfl d_M_row_134 ?_
                  refine lv_iload_n hx hb d_M_row_137 rfl (lv_at hl 2 rfl) ?_
                  refine lv_dup2_11 hx hb d_M_row_138 rfl rfl ?_
                  refine va_iald hx hb hK hP 1 1 rfl rfl (in_nle c_1 c_2 (by decide)) d_M_row_139 ?_
                  refine lv_iconst (v := 1) hx hb d_M_row_140 (by decide) ?_
                  refine lv_iadd hx hb d_M_row_141 ?_
                  refine lv_topi (fun v_10 ev_10 => ?_)
                  refine va_iast hx hb hK hP hD hS 1 1 rfl rfl (in_nle c_1 c_2 (by decide)) d_M_row_142 (fun H locs hP hD hS => ?_)
                  have hP : va_P (dC, dI) classes [(g, .inr (2, [.int 0, .int am, .ref m1, .ref m2, .ref m3, .ref m4, .ref m5, .ref m6, .ref m7, .int wc, .ref m8])), (m4, .inl (cI, 4, .inl (upd rw_ t_.toNatClampNeg v_10))), (m5, .inl (cJ, 64, .inr (.inl (vp_updL mx v_8.toNatClampNeg x)))), (m6, .inl (cJ, 64, .inr (.inl (vp_updL my v_8.toNatClampNeg y)))), (m7, .inl (cJ, 4, .inr (.inl (vp_updL bl t_.toNatClampNeg b))))] H := hP
                  have hD : va_D A [(g, .inr (2, [.int 0, .int am, .ref m1, .ref m2, .ref m3, .ref m4, .ref m5, .ref m6, .ref m7, .int wc, .ref m8])), (m4, .inl (cI, 4, .inl (upd rw_ t_.toNatClampNeg v_10))), (m5, .inl (cJ, 64, .inr (.inl (vp_updL mx v_8.toNatClampNeg x)))), (m6, .inl (cJ, 64, .inr (.inl (vp_updL my v_8.toNatClampNeg y)))), (m7, .inl (cJ, 4, .inr (.inl (vp_updL bl t_.toNatClampNeg b))))] := hD
                  refine lv_iconst (v := 1) hx hb d_M_row_143 (by decide) ?_
                  subst ev_10
                  subst ev_8
                  have hP9 := hP.sub (ws' := [(g, .inr (2, [.int 0, .int am, .ref m1, .ref m2, .ref m3, .ref m4, .ref m5, .ref m6, .ref m7, .int wc, .ref m8])), (m4, .inl (cI, 4, .inl (upd rw_ t_.toNatClampNeg ((rw_ t_.toNatClampNeg) + 1)))), (m5, .inl (cJ, 64, .inr (.inl (vp_updL mx ((16 * t_) + (rw_ t_.toNatClampNeg)).toNatClampNeg x)))), (m6, .inl (cJ, 64, .inr (.inl (vp_updL my ((16 * t_) + (rw_ t_.toNatClampNeg)).toNatClampNeg y)))), (m7, .inl (cJ, 4, .inr (.inl (vp_updL bl t_.toNatClampNeg b))))]) [0, 1, 2, 3, 4] rfl
                  have hD9 := hD.sub (ws' := [(g, .inr (2, [.int 0, .int am, .ref m1, .ref m2, .ref m3, .ref m4, .ref m5, .ref m6, .ref m7, .int wc, .ref m8])), (m4, .inl (cI, 4, .inl (upd rw_ t_.toNatClampNeg ((rw_ t_.toNatClampNeg) + 1)))), (m5, .inl (cJ, 64, .inr (.inl (vp_updL mx ((16 * t_) + (rw_ t_.toNatClampNeg)).toNatClampNeg x)))), (m6, .inl (cJ, 64, .inr (.inl (vp_updL my ((16 * t_) + (rw_ t_.toNatClampNeg)).toNatClampNeg y)))), (m7, .inl (cJ, 4, .inr (.inl (vp_updL bl t_.toNatClampNeg b))))]) [0, 1, 2, 3, 4] (by decide) rfl
                  have hz : (1, (0, upd rw_ t_.toNatClampNeg ((rw_ t_.toNatClampNeg) + 1), vp_updL mx ((16 * t_) + (rw_ t_.toNatClampNeg)).toNatClampNeg x, vp_updL my ((16 * t_) + (rw_ t_.toNatClampNeg)).toNatClampNeg y, vp_updL bl t_.toNatClampNeg b)) = f_M_row rw_ mx my bl t_ x y b := by unfold f_M_row; rw [if_neg c_1, if_neg c_2, if_neg c_3, if_neg c_4, if_neg c_5, if_neg c_6, if_neg c_7, if_pos c_9]
                  exact W.zret (v := 1) hx hb hr rfl (fun t ht hW => ⟨⟨1, (0, upd rw_ t_.toNatClampNeg ((rw_ t_.toNatClampNeg) + 1), vp_updL mx ((16 * t_) + (rw_ t_.toNatClampNeg)).toNatClampNeg x, vp_updL my ((16 * t_) + (rw_ t_.toNatClampNeg)).toNatClampNeg y, vp_updL bl t_.toNatClampNeg b), rfl, hz, wb_of ht hW hP9 hK hD9⟩, hS.F ht⟩) hS.2.2 d_M_row_144
                · skip
                  refine lv_lload hx hb d_M_row_80 (lv_at hl 5 rfl) ?_
                  refine lv_aload_n hx hb d_M_row_82 rfl (lv_at hl 1 rfl) ?_
                  refine va_get (D := (dC, dI)) (ci := 2) (v := .ref m7) (C := R_M) (T := F_M) (N := 11) hx hb hg in_M hown hK hP 0 rfl rfl 8 (by decide) (hg _ wg_274) (fun _ h9 => h9) rfl d_M_row_83 ?_
                  refine lv_iload_n hx hb d_M_row_86 rfl (lv_at hl 2 rfl) ?_
                  refine va_lald hx hb hK hP 4 0 rfl rfl (in_nle c_1 c_2 (by decide)) d_M_row_87 ?_
                  refine W.lcmp hx hb d_M_row_88 ?_
                  refine lv_if_ne (tgt := 106) hx hb d_M_row_89 (by decide) (fun c_11 => ?_) (fun c_11 => ?_)
                  · skip
                    rw [lg_cmp_eq] at c_11
                    refine lv_iconst (v := 0) hx hb d_M_row_106 (by decide) ?_
                    subst ev_8
                    have hP9 := hP.sub (ws' := [(g, .inr (2, [.int 0, .int am, .ref m1, .ref m2, .ref m3, .ref m4, .ref m5, .ref m6, .ref m7, .int wc, .ref m8])), (m4, .inl (cI, 4, .inl rw_)), (m5, .inl (cJ, 64, .inr (.inl mx))), (m6, .inl (cJ, 64, .inr (.inl my))), (m7, .inl (cJ, 4, .inr (.inl bl)))]) [0, 1, 2, 3, 4] rfl
                    have hD9 := hD.sub (ws' := [(g, .inr (2, [.int 0, .int am, .ref m1, .ref m2, .ref m3, .ref m4, .ref m5, .ref m6, .ref m7, .int wc, .ref m8])), (m4, .inl (cI, 4, .inl rw_)), (m5, .inl (cJ, 64, .inr (.inl mx))), (m6, .inl (cJ, 64, .inr (.inl my))), (m7, .inl (cJ, 4, .inr (.inl bl)))]) [0, 1, 2, 3, 4] (by decide) rfl
                    have hz : (0, (0, rw_, mx, my, bl)) = f_M_row rw_ mx my bl t_ x y b := by unfold f_M_row; rw [if_neg c_1, if_neg c_2, if_neg c_3, if_neg c_4, if_neg c_5, if_neg c_6, if_neg c_7, if_neg c_9, if_neg c_11]
                    exact W.zret (v := 0) hx hb hr rfl (fun t ht hW => ⟨⟨0, (0, rw_, mx, my, bl), rfl, hz, wb_of ht hW hP9 hK hD9⟩, hS.F ht⟩) hS.2.2 d_M_row_107
                  · skip
                    rw [lg_cmp_eq] at c_11
                    refine lv_lload_n hx hb d_M_row_92 rfl (lv_at hl 3 rfl) ?_
                    refine lv_aload_n hx hb d_M_row_93 rfl (lv_at hl 1 rfl) ?_
                    refine va_get (D := (dC, dI)) (ci := 2) (v := .ref m5) (C := R_M) (T := F_M) (N := 11) hx hb hg in_M hown hK hP 0 rfl rfl 6 (by decide) (hg _ wg_272) (fun _ h9 => h9) rfl d_M_row_94 ?_
                    refine lv_iload hx hb d_M_row_97 (lv_at hl 0 rfl) ?_
                    refine lv_iconst (v := 1) hx hb d_M_row_99 (by decide) ?_
                    refine lv_isub hx hb d_M_row_100 ?_
                    refine lv_topi (fun i_12 ei_12 => ?_)
                    refine va_lald hx hb hK hP 2 0 rfl rfl (by rw [ei_12, ev_8]; exact row_in1 c_1 c_2 (rw_b hr4 c_1 c_2).1 (rw_b hr4 c_1 c_2).2 c_9) d_M_row_101 ?_
                    refine W.lcmp hx hb d_M_row_102 ?_
                    refine lv_if_gt (tgt := 108) hx hb d_M_row_103 (by decide) (fun c_13 => ?_) (fun c_13 => ?_)
                    · skip
                      rw [lg_cmp_gt] at c_13
                      refine lv_aload_n hx hb d_M_row_108 rfl (lv_at hl 1 rfl) ?_
                      refine va_get (D := (dC, dI)) (ci := 2) (v := .ref m7) (C := R_M) (T := F_M) (N := 11) hx hb hg in_M hown hK hP 0 rfl rfl 8 (by decide) (hg _ wg_274) (fun _ h9 => h9) rfl d_M_row_109 ?_
                      refine lv_iload_n hx hb d_M_row_112 rfl (lv_at hl 2 rfl) ?_
                      refine lv_lload hx hb d_M_row_113 (lv_at hl 5 rfl) ?_
                      refine va_last hx hb hK hP hD hS 4 0 rfl rfl (in_nle c_1 c_2 (by decide)) d_M_row_115 (fun H locs hP hD hS => ?_)
                      have hP : va_P (dC, dI) classes [(g, .inr (2, [.int 0, .int am, .ref m1, .ref m2, .ref m3, .ref m4, .ref m5, .ref m6, .ref m7, .int wc, .ref m8])), (m4, .inl (cI, 4, .inl rw_)), (m5, .inl (cJ, 64, .inr (.inl mx))), (m6, .inl (cJ, 64, .inr (.inl my))), (m7, .inl (cJ, 4, .inr (.inl (vp_updL bl t_.toNatClampNeg b))))] H := hP
                      have hD : va_D A [(g, .inr (2, [.int 0, .int am, .ref m1, .ref m2, .ref m3, .ref m4, .ref m5, .ref m6, .ref m7, .int wc, .ref m8])), (m4, .inl (cI, 4, .inl rw_)), (m5, .inl (cJ, 64, .inr (.inl mx))), (m6, .inl (cJ, 64, .inr (.inl my))), (m7, .inl (cJ, 4, .inr (.inl (vp_updL bl t_.toNatClampNeg b))))] := hD
                      refine lv_aload_n hx hb d_M_row_116 rfl (lv_at hl 1 rfl) ?_
                      refine va_get (D := (dC, dI)) (ci := 2) (v := .ref m5) (C := R_M) (T := F_M) (N := 11) hx hb hg in_M hown hK hP 0 rfl rfl 6 (by decide) (hg _ wg_272) (fun _ h9 => h9) rfl d_M_row_117 ?_
                      refine lv_iload hx hb d_M_row_120 (lv_at hl 0 rfl) ?_
                      refine lv_lload_n hx hb d_M_row_122 rfl (lv_at hl 3 rfl) ?_
                      refine va_last hx hb hK hP hD hS 2 0 rfl rfl (by rw [ev_8]; exact row_in c_1 c_2 (rw_b hr4 c_1 c_2).1 (rw_b hr4 c_1 c_2).2 c_3) d_M_row_123 (fun H locs hP hD hS => ?_)
                      have hP : va_P (dC, dI) classes [(g, .inr (2, [.int 0, .int am, .ref m1, .ref m2, .ref m3, .ref m4, .ref m5, .ref m6, .ref m7, .int wc, .ref m8])), (m4, .inl (cI, 4, .inl rw_)), (m5, .inl (cJ, 64, .inr (.inl (vp_updL mx v_8.toNatClampNeg x)))), (m6, .inl (cJ, 64, .inr (.inl my))), (m7, .inl (cJ, 4, .inr (.inl (vp_updL bl t_.toNatClampNeg b))))] H := hP
                      have hD : va_D A [(g, .inr (2, [.int 0, .int am, .ref m1, .ref m2, .ref m3, .ref m4, .ref m5, .ref m6, .ref m7, .int wc, .ref m8])), (m4, .inl (cI, 4, .inl rw_)), (m5, .inl (cJ, 64, .inr (.inl (vp_updL mx v_8.toNatClampNeg x)))), (m6, .inl (cJ, 64, .inr (.inl my))), (m7, .inl (cJ, 4, .inr (.inl (vp_updL bl t_.toNatClampNeg b))))] := hD
                      refine lv_aload_n hx hb d_M_row_124 rfl (lv_at hl 1 rfl) ?_
                      refine va_get (D := (dC, dI)) (ci := 2) (v := .ref m6) (C := R_M) (T := F_M) (N := 11) hx hb hg in_M hown hK hP 0 rfl rfl 7 (by decide) (hg _ wg_273) (fun _ h9 => h9) rfl d_M_row_125 ?_
                      refine lv_iload hx hb d_M_row_128 (lv_at hl 0 rfl) ?_
                      refine lv_lload hx hb d_M_row_130 (lv_at hl 4 rfl) ?_
                      refine va_last hx hb hK hP hD hS 3 0 rfl rfl (by rw [ev_8]; exact row_in c_1 c_2 (rw_b hr4 c_1 c_2).1 (rw_b hr4 c_1 c_2).2 c_3) d_M_row_132 (fun H locs hP hD hS => ?_)
                      have hP : va_P (dC, dI) classes [(g, .inr (2, [.int 0, .int am, .ref m1, .ref m2, .ref m3, .ref m4, .ref m5, .ref m6, .ref m7, .int wc, .ref m8])), (m4, .inl (cI, 4, .inl rw_)), (m5, .inl (cJ, 64, .inr (.inl (vp_updL mx v_8.toNatClampNeg x)))), (m6, .inl (cJ, 64, .inr (.inl (vp_updL my v_8.toNatClampNeg y)))), (m7, .inl (cJ, 4, .inr (.inl (vp_updL bl t_.toNatClampNeg b))))] H := hP
                      have hD : va_D A [(g, .inr (2, [.int 0, .int am, .ref m1, .ref m2, .ref m3, .ref m4, .ref m5, .ref m6, .ref m7, .int wc, .ref m8])), (m4, .inl (cI, 4, .inl rw_)), (m5, .inl (cJ, 64, .inr (.inl (vp_updL mx v_8.toNatClampNeg x)))), (m6, .inl (cJ, 64, .inr (.inl (vp_updL my v_8.toNatClampNeg y)))), (m7, .inl (cJ, 4, .inr (.inl (vp_updL bl t_.toNatClampNeg b))))] := hD
                      refine lv_aload_n hx hb d_M_row_133 rfl (lv_at hl 1 rfl) ?_
                      refine va_get (D := (dC, dI)) (ci := 2) (v := .ref m4) (C := R_M) (T := F_M) (N := 11) hx hb hg in_M hown hK hP 0 rfl rfl 5 (by decide) (hg _ wg_271) (fun _ h9 => h9) rfl d_M_row_134 ?_
                      refine lv_iload_n hx hb d_M_row_137 rfl (lv_at hl 2 rfl) ?_
                      refine lv_dup2_11 hx hb d_M_row_138 rfl rfl ?_
                      refine va_iald hx hb hK hP 1 1 rfl rfl (in_nle c_1 c_2 (by decide)) d_M_row_139 ?_
                      refine lv_iconst (v := 1) hx hb d_M_row_140 (by decide) ?_
                      refine lv_iadd hx hb d_M_row_141 ?_
                      refine lv_topi (fun v_14 ev_14 => ?_)
                      refine va_iast hx hb hK hP hD hS 1 1 rfl rfl (in_nle c_1 c_2 (by decide)) d_M_row_142 (fun H locs hP hD hS => ?_)
                      have hP : va_P (dC, dI) classes [(g, .inr (2, [.int 0, .int am, .ref m1, .ref m2, .ref m3, .ref m4, .ref m5, .ref m6, .ref m7, .int wc, .ref m8])), (m4, .inl (cI, 4, .inl (upd rw_ t_.toNatClampNeg v_14))), (m5, .inl (cJ, 64, .inr (.inl (vp_updL mx v_8.toNatClampNeg x)))), (m6, .inl (cJ, 64, .inr (.inl (vp_updL my v_8.toNatClampNeg y)))), (m7, .inl (cJ, 4, .inr (.inl (vp_updL bl t_.toNatClampNeg b))))] H := hP
                      have hD : va_D A [(g, .inr (2, [.int 0, .int am, .ref m1, .ref m2, .ref m3, .ref m4, .ref m5, .ref m6, .ref m7, .int wc, .ref m8])), (m4, .inl (cI, 4, .inl (upd rw_ t_.toNatClampNeg v_14))), (m5, .inl (cJ, 64, .inr (.inl (vp_updL mx v_8.toNatClampNeg x)))), (m6, .inl (cJ, 64, .inr (.inl (vp_updL my v_8.toNatClampNeg y)))), (m7, .inl (cJ, 4, .inr (.inl (vp_updL bl t_.toNatClampNeg b))))] := hD
                      refine lv_iconst (v := 1) hx hb d_M_row_143 (by decide) ?_
                      subst ev_14
                      subst ei_12
                      subst ev_8
                      have hP9 := hP.sub (ws' := [(g, .inr (2, [.int 0, .int am, .ref m1, .ref m2, .ref m3, .ref m4, .ref m5, .ref m6, .ref m7, .int wc, .ref m8])), (m4, .inl (cI, 4, .inl (upd rw_ t_.toNatClampNeg ((rw_ t_.toNatClampNeg) + 1)))), (m5, .inl (cJ, 64, .inr (.inl (vp_updL mx ((16 * t_) + (rw_ t_.toNatClampNeg)).toNatClampNeg x)))), (m6, .inl (cJ, 64, .inr (.inl (vp_updL my ((16 * t_) + (rw_ t_.toNatClampNeg)).toNatClampNeg y)))), (m7, .inl (cJ, 4, .inr (.inl (vp_updL bl t_.toNatClampNeg b))))]) [0, 1, 2, 3, 4] rfl
                      have hD9 := hD.sub (ws' := [(g, .inr (2, [.int 0, .int am, .ref m1, .ref m2, .ref m3, .ref m4, .ref m5, .ref m6, .ref m7, .int wc, .ref m8])), (m4, .inl (cI, 4, .inl (upd rw_ t_.toNatClampNeg ((rw_ t_.toNatClampNeg) + 1)))), (m5, .inl (cJ, 64, .inr (.inl (vp_updL mx ((16 * t_) + (rw_ t_.toNatClampNeg)).toNatClampNeg x)))), (m6, .inl (cJ, 64, .inr (.inl (vp_updL my ((16 * t_) + (rw_ t_.toNatClampNeg)).toNatClampNeg y)))), (m7, .inl (cJ, 4, .inr (.inl (vp_updL bl t_.toNatClampNeg b))))]) [0, 1, 2, 3, 4] (by decide) rfl
                      have hz : (1, (0, upd rw_ t_.toNatClampNeg ((rw_ t_.toNatClampNeg) + 1), vp_updL mx ((16 * t_) + (rw_ t_.toNatClampNeg)).toNatClampNeg x, vp_updL my ((16 * t_) + (rw_ t_.toNatClampNeg)).toNatClampNeg y, vp_updL bl t_.toNatClampNeg b)) = f_M_row rw_ mx my bl t_ x y b := by unfold f_M_row; rw [if_neg c_1, if_neg c_2, if_neg c_3, if_neg c_4, if_neg c_5, if_neg c_6, if_neg c_7, if_neg c_9, if_pos c_11, if_pos c_13]
                      exact W.zret (v := 1) hx hb hr rfl (fun t ht hW => ⟨⟨1, (0, upd rw_ t_.toNatClampNeg ((rw_ t_.toNatClampNeg) + 1), vp_updL mx ((16 * t_) + (rw_ t_.toNatClampNeg)).toNatClampNeg x, vp_updL my ((16 * t_) + (rw_ t_.toNatClampNeg)).toNatClampNeg y, vp_updL bl t_.toNatClampNeg b), rfl, hz, wb_of ht hW hP9 hK hD9⟩, hS.F ht⟩) hS.2.2 d_M_row_144
                    · skip
                      rw [lg_cmp_gt] at c_13
                      refine lv_iconst (v := 0) hx hb d_M_row_106 (by decide) ?_
                      subst ei_12
                      subst ev_8
                      have hP9 := hP.sub (ws' := [(g, .inr (2, [.int 0, .int am, .ref m1, .ref m2, .ref m3, .ref m4, .ref m5, .ref m6, .ref m7, .int wc, .ref m8])), (m4, .inl (cI, 4, .inl rw_)), (m5, .inl (cJ, 64, .inr (.inl mx))), (m6, .inl (cJ, 64, .inr (.inl my))), (m7, .inl (cJ, 4, .inr (.inl bl)))]) [0, 1, 2, 3, 4] rfl
                      have hD9 := hD.sub (ws' := [(g, .inr (2, [.int 0, .int am, .ref m1, .ref m2, .ref m3, .ref m4, .ref m5, .ref m6, .ref m7, .int wc, .ref m8])), (m4, .inl (cI, 4, .inl rw_)), (m5, .inl (cJ, 64, .inr (.inl mx))), (m6, .inl (cJ, 64, .inr (.inl my))), (m7, .inl (cJ, 4, .inr (.inl bl)))]) [0, 1, 2, 3, 4] (by decide) rfl
                      have hz : (0, (0, rw_, mx, my, bl)) = f_M_row rw_ mx my bl t_ x y b := by unfold f_M_row; rw [if_neg c_1, if_neg c_2, if_neg c_3, if_neg c_4, if_neg c_5, if_neg c_6, if_neg c_7, if_neg c_9, if_pos c_11, if_neg c_13]
                      exact W.zret (v := 0) hx hb hr rfl (fun t ht hW => ⟨⟨0, (0, rw_, mx, my, bl), rfl, hz, wb_of ht hW hP9 hK hD9⟩, hS.F ht⟩) hS.2.2 d_M_row_107
              · skip
                refine lv_iconst (v := 0) hx hb d_M_row_56 (by decide) ?_
                have hP9 := hP.sub (ws' := [(g, .inr (2, [.int 0, .int am, .ref m1, .ref m2, .ref m3, .ref m4, .ref m5, .ref m6, .ref m7, .int wc, .ref m8])), (m4, .inl (cI, 4, .inl rw_)), (m5, .inl (cJ, 64, .inr (.inl mx))), (m6, .inl (cJ, 64, .inr (.inl my))), (m7, .inl (cJ, 4, .inr (.inl bl)))]) [0, 1, 2, 3, 4] rfl
                have hD9 := hD.sub (ws' := [(g, .inr (2, [.int 0, .int am, .ref m1, .ref m2, .ref m3, .ref m4, .ref m5, .ref m6, .ref m7, .int wc, .ref m8])), (m4, .inl (cI, 4, .inl rw_)), (m5, .inl (cJ, 64, .inr (.inl mx))), (m6, .inl (cJ, 64, .inr (.inl my))), (m7, .inl (cJ, 4, .inr (.inl bl)))]) [0, 1, 2, 3, 4] (by decide) rfl
                have hz : (0, (0, rw_, mx, my, bl)) = f_M_row rw_ mx my bl t_ x y b := by unfold f_M_row; rw [if_neg c_1, if_neg c_2, if_neg c_3, if_neg c_4, if_neg c_5, if_neg c_6, if_pos c_7]
                exact W.zret (v := 0) hx hb hr rfl (fun t ht hW => ⟨⟨0, (0, rw_, mx, my, bl), rfl, hz, wb_of ht hW hP9 hK hD9⟩, hS.F ht⟩) hS.2.2 d_M_row_57
set_option maxHeartbeats 4000000 in
set_option maxRecDepth 100000 in
theorem k_M_clear (l : Launch) (dC : Nat → ClassId) (dI : Nat → Nat → Nat) (cJ cI cT : ClassId) (g m1 m2 m3 m4 m5 m6 m7 m8 : Nat) (cd am wc : Int32) (rw_ : Nat → Int32) (sz : Nat) : Met l y_M_clear w_M_clear ({ frames := 0, cells := 0, slots := 0, locals := 0 }) (va_Pc [.ref g] (wx dC dI cJ cI cT sz [(g, .inr (2, [.int cd, .int am, .ref m1, .ref m2, .ref m3, .ref m4, .ref m5, .ref m6, .ref m7, .int wc, .ref m8])), (m4, .inl (cI, 4, .inl rw_))])) (va_Qv (fun (u : Unit) => u = ()) (fun u => wb dC dI cJ cI cT (va_A [(g, .inr (2, [.int cd, .int am, .ref m1, .ref m2, .ref m3, .ref m4, .ref m5, .ref m6, .ref m7, .int wc, .ref m8])), (m4, .inl (cI, 4, .inl rw_))] sz) [(g, .inr (2, [.int 0, .int 0, .ref m1, .ref m2, .ref m3, .ref m4, .ref m5, .ref m6, .ref m7, .int 0, .ref m8])), (m4, .inl (cI, 4, .inl (upd (upd (upd (upd rw_ (0 : Int32).toNatClampNeg 0) (1 : Int32).toNatClampNeg 0) (2 : Int32).toNatClampNeg 0) (3 : Int32).toNatClampNeg 0)))]) (va_A [(g, .inr (2, [.int cd, .int am, .ref m1, .ref m2, .ref m3, .ref m4, .ref m5, .ref m6, .ref m7, .int wc, .ref m8])), (m4, .inl (cI, 4, .inl rw_))] sz)) 0 0 (va_A [(g, .inr (2, [.int cd, .int am, .ref m1, .ref m2, .ref m3, .ref m4, .ref m5, .ref m6, .ref m7, .int wc, .ref m8])), (m4, .inl (cI, 4, .inl rw_))] sz) := by
  refine Met.ofW (cc := c_M_clear) (maxL := 2) (ret := (Option.none : Option Jvm.ClassFile.FieldType)) (by decide) rfl ?_
  intro p e s m args below meth c s₁ B hml hv
  obtain ⟨rfl, hsz, hP, hK, hD0⟩ := hv
  have hx := B.exec
  have hb := B.bytes
  have hr := B.returns
  have hts := atoms_spec (ws := w_M_clear) B.pre
  have hg : ∀ w ∈ WG, w.before _ s = true := fun w h => hts w (List.mem_cons_of_mem _ h)
  have hown : s.vm.findClass R_M = some m.cls := findClass_of_methodNamed B.named
  have hlocks := B.notSynchronized
  have hl := lv_entry ([.ref g]) (n := 2) (Nat.le_of_ble_eq_true rfl)
  rw [lg_entry_eq]
  generalize (lg_sl ([.ref g]) ++ List.replicate (2 - (lg_sl ([.ref g])).length) Slot.unset).toArray = ls at hl ⊢
  have hl : lv_has ls 2 [(0, .ref g)] := hl
  subst hsz
  have hD := hD0.self (sz := s.heap.size)
  generalize hAe : va_A [(g, .inr (2, [.int cd, .int am, .ref m1, .ref m2, .ref m3, .ref m4, .ref m5, .ref m6, .ref m7, .int wc, .ref m8])), (m4, .inl (cI, 4, .inl rw_))] s.heap.size = A at hD ⊢
  have hA : ∀ q : Nat, s.heap.size ≤ q → A q := fun q h => by rw [← hAe]; exact Or.inr h
  have hS : va_S A s.heap s.heap [] := va_S.rf
  have hP : va_P (dC, dI) classes [(g, .inr (2, [.int cd, .int am, .ref m1, .ref m2, .ref m3, .ref m4, .ref m5, .ref m6, .ref m7, .int wc, .ref m8])), (m4, .inl (cI, 4, .inl rw_))] s.heap := hP
  have hD : va_D A [(g, .inr (2, [.int cd, .int am, .ref m1, .ref m2, .ref m3, .ref m4, .ref m5, .ref m6, .ref m7, .int wc, .ref m8])), (m4, .inl (cI, 4, .inl rw_))] := hD
  skip
  refine lv_aload_n hx hb d_M_clear_0 rfl (lv_at hl 0 rfl) ?_
  refine lv_iconst (v := 0) hx hb d_M_clear_1 (by decide) ?_
  refine va_put (D := (dC, dI)) (ci := 2) (v := .int 0) (ty := .int) (C := R_M) (T := F_M) (N := 11) hx hb hg in_M tt_M tt_M_ok nn_M hown hK hP hD hS 0 rfl rfl 0 (by decide) (hg _ wg_266) (fun _ h9 => h9) rfl (by decide +kernel) rfl rfl (Nat.le_of_ble_eq_true rfl) d_M_clear_2 (fun H locs hP hD hS => ?_)
  have hP : va_P (dC, dI) classes [(g, .inr (2, [.int 0, .int am, .ref m1, .ref m2, .ref m3, .ref m4, .ref m5, .ref m6, .ref m7, .int wc, .ref m8])), (m4, .inl (cI, 4, .inl rw_))] H := hP
  have hD : va_D A [(g, .inr (2, [.int 0, .int am, .ref m1, .ref m2, .ref m3, .ref m4, .ref m5, .ref m6, .ref m7, .int wc, .ref m8])), (m4, .inl (cI, 4, .inl rw_))] := hD
  refine lv_aload_n hx hb d_M_clear_5 rfl (lv_at hl 0 rfl) ?_
  refine lv_iconst (v := 0) hx hb d_M_clear_6 (by decide) ?_
  refine va_put (D := (dC, dI)) (ci := 2) (v := .int 0) (ty := .int) (C := R_M) (T := F_M) (N := 11) hx hb hg in_M tt_M tt_M_ok nn_M hown hK hP hD hS 0 rfl rfl 1 (by decide) (hg _ wg_267) (fun _ h9 => h9) rfl (by decide +kernel) rfl rfl (Nat.le_of_ble_eq_true rfl) d_M_clear_7 (fun H locs hP hD hS => ?_)
  have hP : va_P (dC, dI) classes [(g, .inr (2, [.int 0, .int 0, .ref m1, .ref m2, .ref m3, .ref m4, .ref m5, .ref m6, .ref m7, .int wc, .ref m8])), (m4, .inl (cI, 4, .inl rw_))] H := hP
  have hD : va_D A [(g, .inr (2, [.int 0, .int 0, .ref m1, .ref m2, .ref m3, .ref m4, .ref m5, .ref m6, .ref m7, .int wc, .ref m8])), (m4, .inl (cI, 4, .inl rw_))] := hD
  refine lv_aload_n hx hb d_M_clear_10 rfl (lv_at hl 0 rfl) ?_
  refine lv_iconst (v := 0) hx hb d_M_clear_11 (by decide) ?_
  refine va_put (D := (dC, dI)) (ci := 2) (v := .int 0) (ty := .int) (C := R_M) (T := F_M) (N := 11) hx hb hg in_M tt_M tt_M_ok nn_M hown hK hP hD hS 0 rfl rfl 9 (by decide) (hg _ wg_275) (fun _ h9 => h9) rfl (by decide +kernel) rfl rfl (Nat.le_of_ble_eq_true rfl) d_M_clear_12 (fun H locs hP hD hS => ?_)
  have hP : va_P (dC, dI) classes [(g, .inr (2, [.int 0, .int 0, .ref m1, .ref m2, .ref m3, .ref m4, .ref m5, .ref m6, .ref m7, .int 0, .ref m8])), (m4, .inl (cI, 4, .inl rw_))] H := hP
  have hD : va_D A [(g, .inr (2, [.int 0, .int 0, .ref m1, .ref m2, .ref m3, .ref m4, .ref m5, .ref m6, .ref m7, .int 0, .ref m8])), (m4, .inl (cI, 4, .inl rw_))] := hD
  refine lv_iconst (v := 0) hx hb d_M_clear_15 (by decide) ?_
  refine lv_istore_n (lv' := [(1, .int 0), (0, .ref g)]) hx hb d_M_clear_16 rfl hl (by decide) rfl (fun ls hl => ?_)
  refine lv_iload_n hx hb d_M_clear_17 rfl (lv_at hl 0 rfl) ?_
  refine lv_iconst (v := 4) hx hb d_M_clear_18 (by decide) ?_
  refine lv_icmp_ge (tgt := 35) hx hb d_M_clear_19 (by decide) (fun c_1 => ?_) (fun c_1 => ?_)
  · skip
    exact absurd c_1 (by decide)
  · skip
    refine lv_aload_n hx hb d_M_clear_22 rfl (lv_at hl 1 rfl) ?_
    refine va_get (D := (dC, dI)) (ci := 2) (v := .ref m4) (C := R_M) (T := F_M) (N := 11) hx hb hg in_M hown hK hP 0 rfl rfl 5 (by decide) (hg _ wg_271) (fun _ h9 => h9) rfl d_M_clear_23 ?_
    refine lv_iload_n hx hb d_M_clear_26 rfl (lv_at hl 0 rfl) ?_
    refine lv_iconst (v := 0) hx hb d_M_clear_27 (by decide) ?_
    refine va_iast hx hb hK hP hD hS 1 1 rfl rfl (by unfold vp_in; decide) d_M_clear_28 (fun H locs hP hD hS => ?_)
    have hP : va_P (dC, dI) classes [(g, .inr (2, [.int 0, .int 0, .ref m1, .ref m2, .ref m3, .ref m4, .ref m5, .ref m6, .ref m7, .int 0, .ref m8])), (m4, .inl (cI, 4, .inl (upd rw_ (0 : Int32).toNatClampNeg 0)))] H := hP
    have hD : va_D A [(g, .inr (2, [.int 0, .int 0, .ref m1, .ref m2, .ref m3, .ref m4, .ref m5, .ref m6, .ref m7, .int 0, .ref m8])), (m4, .inl (cI, 4, .inl (upd rw_ (0 : Int32).toNatClampNeg 0)))] := hD
    refine lv_iinc (v := 1) (lv' := [(1, .int 1), (0, .ref g)]) hx hb d_M_clear_29 hl (k := 0) rfl (by decide) (by decide) rfl (fun ls hl => ?_)
    refine lv_goto (tgt := 17) hx hb d_M_clear_32 (by decide) ?_
    refine lv_iload_n hx hb d_M_clear_17 rfl (lv_at hl 0 rfl) ?_
    refine lv_iconst (v := 4) hx hb d_M_clear_18 (by decide) ?_
    refine lv_icmp_ge (tgt := 35) hx hb d_M_clear_19 (by decide) (fun c_2 => ?_) (fun c_2 => ?_)
    · skip
      exact absurd c_2 (by decide)
    · skip
      refine lv_aload_n hx hb d_M_clear_22 rfl (lv_at hl 1 rfl) ?_
      refine va_get (D := (dC, dI)) (ci := 2) (v := .ref m4) (C := R_M) (T := F_M) (N := 11) hx hb hg in_M hown hK hP 0 rfl rfl 5 (by decide) (hg _ wg_271) (fun _ h9 => h9) rfl d_M_clear_23 ?_
      refine lv_iload_n hx hb d_M_clear_26 rfl (lv_at hl 0 rfl) ?_
      refine lv_iconst (v := 0) hx hb d_M_clear_27 (by decide) ?_
      refine va_iast hx hb hK hP hD hS 1 1 rfl rfl (by unfold vp_in; decide) d_M_clear_28 (fun H locs hP hD hS => ?_)
      have hP : va_P (dC, dI) classes [(g, .inr (2, [.int 0, .int 0, .ref m1, .ref m2, .ref m3, .ref m4, .ref m5, .ref m6, .ref m7, .int 0, .ref m8])), (m4, .inl (cI, 4, .inl (upd (upd rw_ (0 : Int32).toNatClampNeg 0) (1 : Int32).toNatClampNeg 0)))] H := hP
      have hD : va_D A [(g, .inr (2, [.int 0, .int 0, .ref m1, .ref m2, .ref m3, .ref m4, .ref m5, .ref m6, .ref m7, .int 0, .ref m8])), (m4, .inl (cI, 4, .inl (upd (upd rw_ (0 : Int32).toNatClampNeg 0) (1 : Int32).toNatClampNeg 0)))] := hD
      refine lv_iinc (v := 2) (lv' := [(1, .int 2), (0, .ref g)]) hx hb d_M_clear_29 hl (k := 0) rfl (by decide) (by decide) rfl (fun ls hl => ?_)
      refine lv_goto (tgt := 17) hx hb d_M_clear_32 (by decide) ?_
      refine lv_iload_n hx hb d_M_clear_17 rfl (lv_at hl 0 rfl) ?_
      refine lv_iconst (v := 4) hx hb d_M_clear_18 (by decide) ?_
      refine lv_icmp_ge (tgt := 35) hx hb d_M_clear_19 (by decide) (fun c_3 => ?_) (fun c_3 => ?_)
      · skip
        exact absurd c_3 (by decide)
      · skip
        refine lv_aload_n hx hb d_M_clear_22 rfl (lv_at hl 1 rfl) ?_
        refine va_get (D := (dC, dI)) (ci := 2) (v := .ref m4) (C := R_M) (T := F_M) (N := 11) hx hb hg in_M hown hK hP 0 rfl rfl 5 (by decide) (hg _ wg_271) (fun _ h9 => h9) rfl d_M_clear_23 ?_
        refine lv_iload_n hx hb d_M_clear_26 rfl (lv_at hl 0 rfl) ?_
        refine lv_iconst (v := 0) hx hb d_M_clear_27 (by decide) ?_
        refine va_iast hx hb hK hP hD hS 1 1 rfl rfl (by unfold vp_in; decide) d_M_clear_28 (fun H locs hP hD hS => ?_)
        have hP : va_P (dC, dI) classes [(g, .inr (2, [.int 0, .int 0, .ref m1, .ref m2, .ref m3, .ref m4, .ref m5, .ref m6, .ref m7, .int 0, .ref m8])), (m4, .inl (cI, 4, .inl (upd (upd (upd rw_ (0 : Int32).toNatClampNeg 0) (1 : Int32).toNatClampNeg 0) (2 : Int32).toNatClampNeg 0)))] H := hP
        have hD : va_D A [(g, .inr (2, [.int 0, .int 0, .ref m1, .ref m2, .ref m3, .ref m4, .ref m5, .ref m6, .ref m7, .int 0, .ref m8])), (m4, .inl (cI, 4, .inl (upd (upd (upd rw_ (0 : Int32).toNatClampNeg 0) (1 : Int32).toNatClampNeg 0) (2 : Int32).toNatClampNeg 0)))] := hD
        refine lv_iinc (v := 3) (lv' := [(1, .int 3), (0, .ref g)]) hx hb d_M_clear_29 hl (k := 0) rfl (by decide) (by decide) rfl (fun ls hl => ?_)
        refine lv_goto (tgt := 17) hx hb d_M_clear_32 (by decide) ?_
        refine lv_iload_n hx hb d_M_clear_17 rfl (lv_at hl 0 rfl) ?_
        refine lv_iconst (v := 4) hx hb d_M_clear_18 (by decide) ?_
        refine lv_icmp_ge (tgt := 35) hx hb d_M_clear_19 (by decide) (fun c_4 => ?_) (fun c_4 => ?_)
        · skip
          exact absurd c_4 (by decide)
        · skip
          refine lv_aload_n hx hb d_M_clear_22 rfl (lv_at hl 1 rfl) ?_
          refine va_get (D := (dC, dI)) (ci := 2) (v := .ref m4) (C := R_M) (T := F_M) (N := 11) hx hb hg in_M hown hK hP 0 rfl rfl 5 (by decide) (hg _ wg_271) (fun _ h9 => h9) rfl d_M_clear_23 ?_
          refine lv_iload_n hx hb d_M_clear_26 rfl (lv_at hl 0 rfl) ?_
          refine lv_iconst (v := 0) hx hb d_M_clear_27 (by decide) ?_
          refine va_iast hx hb hK hP hD hS 1 1 rfl rfl (by unfold vp_in; decide) d_M_clear_28 (fun H locs hP hD hS => ?_)
          have hP : va_P (dC, dI) classes [(g, .inr (2, [.int 0, .int 0, .ref m1, .ref m2, .ref m3, .ref m4, .ref m5, .ref m6, .ref m7, .int 0, .ref m8])), (m4, .inl (cI, 4, .inl (upd (upd (upd (upd rw_ (0 : Int32).toNatClampNeg 0) (1 : Int32).toNatClampNeg 0) (2 : Int32).toNatClampNeg 0) (3 : Int32).toNatClampNeg 0)))] H := hP
          have hD : va_D A [(g, .inr (2, [.int 0, .int 0, .ref m1, .ref m2, .ref m3, .ref m4, .ref m5, .ref m6, .ref m7, .int 0, .ref m8])), (m4, .inl (cI, 4, .inl (upd (upd (upd (upd rw_ (0 : Int32).toNatClampNeg 0) (1 : Int32).toNatClampNeg 0) (2 : Int32).toNatClampNeg 0) (3 : Int32).toNatClampNeg 0)))] := hD
          refine lv_iinc (v := 4) (lv' := [(1, .int 4), (0, .ref g)]) hx hb d_M_clear_29 hl (k := 0) rfl (by decide) (by decide) rfl (fun ls hl => ?_)
          refine lv_goto (tgt := 17) hx hb d_M_clear_32 (by decide) ?_
          refine lv_iload_n hx hb d_M_clear_17 rfl (lv_at hl 0 rfl) ?_
          refine lv_iconst (v := 4) hx hb d_M_clear_18 (by decide) ?_
          refine lv_icmp_ge (tgt := 35) hx hb d_M_clear_19 (by decide) (fun c_5 => ?_) (fun c_5 => ?_)
          · skip
            have hP9 := hP.sub (ws' := [(g, .inr (2, [.int 0, .int 0, .ref m1, .ref m2, .ref m3, .ref m4, .ref m5, .ref m6, .ref m7, .int 0, .ref m8])), (m4, .inl (cI, 4, .inl (upd (upd (upd (upd rw_ (0 : Int32).toNatClampNeg 0) (1 : Int32).toNatClampNeg 0) (2 : Int32).toNatClampNeg 0) (3 : Int32).toNatClampNeg 0)))]) [0, 1] rfl
            have hD9 := hD.sub (ws' := [(g, .inr (2, [.int 0, .int 0, .ref m1, .ref m2, .ref m3, .ref m4, .ref m5, .ref m6, .ref m7, .int 0, .ref m8])), (m4, .inl (cI, 4, .inl (upd (upd (upd (upd rw_ (0 : Int32).toNatClampNeg 0) (1 : Int32).toNatClampNeg 0) (2 : Int32).toNatClampNeg 0) (3 : Int32).toNatClampNeg 0)))]) [0, 1] (by decide) rfl
            exact W.vret hx hb hr (fun t ht hW => ⟨⟨(), rfl, rfl, wb_of ht hW hP9 hK hD9⟩, hS.F ht⟩) hS.2.2 d_M_clear_35
          · skip
            exact absurd (by decide) c_5
set_option maxHeartbeats 4000000 in
set_option maxRecDepth 100000 in
theorem k_M_init (l : Launch) (dC : Nat → ClassId) (dI : Nat → Nat → Nat) (cJ cI cT : ClassId) (g : Nat) (sz : Nat) : Met l y_M_init w_M_init ({ frames := 1, cells := 8, slots := 1652, locals := 12 }) (va_Pc [.ref g] (wx dC dI cJ cI cT sz [(g, .inr (2, [.int 0, .int 0, .null, .null, .null, .null, .null, .null, .null, .int 0, .null]))])) (va_Qv (fun (_ : Nat → Nat) => True) (fun u => wb dC dI cJ cI cT (va_A [(g, .inr (2, [.int 0, .int 0, .null, .null, .null, .null, .null, .null, .null, .int 0, .null]))] sz) [(g, .inr (2, [.int 0, .int 0, .ref (u 0), .ref (u 1), .ref (u 2), .ref (u 3), .ref (u 4), .ref (u 5), .ref (u 6), .int 0, .ref (u 7)])), ((u 0), .inl (cJ, 500, .inr (.inl (fun _ => 0)))), ((u 1), .inl (cJ, 500, .inr (.inl (fun _ => 0)))), ((u 2), .inl (cI, 500, .inl (fun _ => 0))), ((u 3), .inl (cI, 4, .inl (fun _ => 0))), ((u 4), .inl (cJ, 64, .inr (.inl (fun _ => 0)))), ((u 5), .inl (cJ, 64, .inr (.inl (fun _ => 0)))), ((u 6), .inl (cJ, 4, .inr (.inl (fun _ => 0)))), ((u 7), .inl (cJ, 16, .inr (.inl (fun _ => 0))))]) (va_A [(g, .inr (2, [.int 0, .int 0, .null, .null, .null, .null, .null, .null, .null, .int 0, .null]))] sz)) 8 1652 (va_A [(g, .inr (2, [.int 0, .int 0, .null, .null, .null, .null, .null, .null, .null, .int 0, .null]))] sz) := by
  refine Met.ofW (cc := c_M_init) (maxL := 1) (ret := (Option.none : Option Jvm.ClassFile.FieldType)) (by decide) rfl ?_
  intro p e s m args below meth c s₁ B hml hv
  obtain ⟨rfl, hsz, hP, hK, hD0⟩ := hv
  have hx := B.exec
  have hb := B.bytes
  have hr := B.returns
  have hts := atoms_spec (ws := w_M_init) B.pre
  have hg : ∀ w ∈ WG, w.before _ s = true := fun w h => hts w (List.mem_cons_of_mem _ h)
  have hown : s.vm.findClass R_M = some m.cls := findClass_of_methodNamed B.named
  have hlocks := B.notSynchronized
  have hl := lv_entry ([.ref g]) (n := 1) (Nat.le_of_ble_eq_true rfl)
  rw [lg_entry_eq]
  generalize (lg_sl ([.ref g]) ++ List.replicate (1 - (lg_sl ([.ref g])).length) Slot.unset).toArray = ls at hl ⊢
  have hl : lv_has ls 1 [(0, .ref g)] := hl
  have hin : meth.name = "<init>" := (name_of_methodNamed B.named B.method).1
  subst hsz
  have hD := hD0.self (sz := s.heap.size)
  generalize hAe : va_A [(g, .inr (2, [.int 0, .int 0, .null, .null, .null, .null, .null, .null, .null, .int 0, .null]))] s.heap.size = A at hD ⊢
  have hA : ∀ q : Nat, s.heap.size ≤ q → A q := fun q h => by rw [← hAe]; exact Or.inr h
  have hS : va_S A s.heap s.heap [] := va_S.rf
  have hP : va_P (dC, dI) classes [(g, .inr (2, [.int 0, .int 0, .null, .null, .null, .null, .null, .null, .null, .int 0, .null]))] s.heap := hP
  have hD : va_D A [(g, .inr (2, [.int 0, .int 0, .null, .null, .null, .null, .null, .null, .null, .int 0, .null]))] := hD
  refine lv_aload_n hx hb d_M_init_0 rfl (lv_at hl 0 rfl) ?_
  refine W.objInit hx hb hown (hg _ wg_265) (hg _ wg_29) (hg _ wg_30) rfl (by rw [hml]; exact hl.1) rfl d_M_init_1 (Nat.le_of_ble_eq_true rfl) (Nat.le_of_ble_eq_true rfl) ?_
  refine W.eq (g2 := F0 m 4 ls []) rfl ?_
  refine lv_aload_n hx hb d_M_init_4 rfl (lv_at hl 0 rfl) ?_
  refine lv_sipush (v := 500) hx hb d_M_init_5 (by decide) ?_
  refine va_newa (atype := .long) (ty := .long) (D := (dC, dI)) (a0 := (500, .inr (.inl (fun _ => 0)))) (N' := 500) hx hb (hg _ wg_44) rfl hK hP hD hS hA (fun _ => rfl) (by decide) (by decide) (by decide) (Nat.le_of_ble_eq_true rfl) (Nat.le_of_ble_eq_true rfl) d_M_init_8 (fun q_1 cA H hK9 hP hD hS => ?_)
  obtain rfl : cJ = cA := (arr_J hK9).symm
  have hP : va_P (dC, dI) classes [(g, .inr (2, [.int 0, .int 0, .null, .null, .null, .null, .null, .null, .null, .int 0, .null])), (q_1, .inl (cJ, 500, .inr (.inl (fun _ => 0))))] H := hP
  have hD : va_D A [(g, .inr (2, [.int 0, .int 0, .null, .null, .null, .null, .null, .null, .null, .int 0, .null])), (q_1, .inl (cJ, 500, .inr (.inl (fun _ => 0))))] := hD
  refine va_putF (D := (dC, dI)) (ci := 2) (v := .ref q_1) (ty := .array .long) (C := R_M) (T := F_M) (N := 11) hx hb hg in_M tt_M tt_M_ok nn_M hown hK hP hD hS 0 rfl rfl 2 (by decide) (hg _ wg_268) (fun _ h9 => h9) rfl hin rfl (by decide +kernel) rfl rfl (Nat.le_of_ble_eq_true rfl) d_M_init_10 (fun H locs hP hD hS => ?_)
  have hP : va_P (dC, dI) classes [(g, .inr (2, [.int 0, .int 0, .ref q_1, .null, .null, .null, .null, .null, .null, .int 0, .null])), (q_1, .inl (cJ, 500, .inr (.inl (fun _ => 0))))] H := hP
  have hD : va_D A [(g, .inr (2, [.int 0, .int 0, .ref q_1, .null, .null, .null, .null, .null, .null, .int 0, .null])), (q_1, .inl (cJ, 500, .inr (.inl (fun _ => 0))))] := hD
  refine lv_aload_n hx hb d_M_init_13 rfl (lv_at hl 0 rfl) ?_
  refine lv_sipush (v := 500) hx hb d_M_init_14 (by decide) ?_
  refine va_newa (atype := .long) (ty := .long) (D := (dC, dI)) (a0 := (500, .inr (.inl (fun _ => 0)))) (N' := 500) hx hb (hg _ wg_44) rfl hK hP hD hS hA (fun _ => rfl) (by decide) (by decide) (by decide) (Nat.le_of_ble_eq_true rfl) (Nat.le_of_ble_eq_true rfl) d_M_init_17 (fun q_2 cA H hK9 hP hD hS => ?_)
  obtain rfl : cJ = cA := (arr_J hK9).symm
  have hP : va_P (dC, dI) classes [(g, .inr (2, [.int 0, .int 0, .ref q_1, .null, .null, .null, .null, .null, .null, .int 0, .null])), (q_1, .inl (cJ, 500, .inr (.inl (fun _ => 0)))), (q_2, .inl (cJ, 500, .inr (.inl (fun _ => 0))))] H := hP
  have hD : va_D A [(g, .inr (2, [.int 0, .int 0, .ref q_1, .null, .null, .null, .null, .null, .null, .int 0, .null])), (q_1, .inl (cJ, 500, .inr (.inl (fun _ => 0)))), (q_2, .inl (cJ, 500, .inr (.inl (fun _ => 0))))] := hD
  refine va_putF (D := (dC, dI)) (ci := 2) (v := .ref q_2) (ty := .array .long) (C := R_M) (T := F_M) (N := 11) hx hb hg in_M tt_M tt_M_ok nn_M hown hK hP hD hS 0 rfl rfl 3 (by decide) (hg _ wg_269) (fun _ h9 => h9) rfl hin rfl (by decide +kernel) rfl rfl (Nat.le_of_ble_eq_true rfl) d_M_init_19 (fun H locs hP hD hS => ?_)
  have hP : va_P (dC, dI) classes [(g, .inr (2, [.int 0, .int 0, .ref q_1, .ref q_2, .null, .null, .null, .null, .null, .int 0, .null])), (q_1, .inl (cJ, 500, .inr (.inl (fun _ => 0)))), (q_2, .inl (cJ, 500, .inr (.inl (fun _ => 0))))] H := hP
  have hD : va_D A [(g, .inr (2, [.int 0, .int 0, .ref q_1, .ref q_2, .null, .null, .null, .null, .null, .int 0, .null])), (q_1, .inl (cJ, 500, .inr (.inl (fun _ => 0)))), (q_2, .inl (cJ, 500, .inr (.inl (fun _ => 0))))] := hD
  refine lv_aload_n hx hb d_M_init_22 rfl (lv_at hl 0 rfl) ?_
  refine lv_sipush (v := 500) hx hb d_M_init_23 (by decide) ?_
  refine va_newa (atype := .int) (ty := .int) (D := (dC, dI)) (a0 := (500, .inl (fun _ => 0))) (N' := 500) hx hb (hg _ wg_45) rfl hK hP hD hS hA (fun _ => rfl) (by decide) (by decide) (by decide) (Nat.le_of_ble_eq_true rfl) (Nat.le_of_ble_eq_true rfl) d_M_init_26 (fun q_3 cA H hK9 hP hD hS => ?_)
  obtain rfl : cI = cA := (arr_I hK9).symm
  have hP : va_P (dC, dI) classes [(g, .inr (2, [.int 0, .int 0, .ref q_1, .ref q_2, .null, .null, .null, .null, .null, .int 0, .null])), (q_1, .inl (cJ, 500, .inr (.inl (fun _ => 0)))), (q_2, .inl (cJ, 500, .inr (.inl (fun _ => 0)))), (q_3, .inl (cI, 500, .inl (fun _ => 0)))] H := hP
  have hD : va_D A [(g, .inr (2, [.int 0, .int 0, .ref q_1, .ref q_2, .null, .null, .null, .null, .null, .int 0, .null])), (q_1, .inl (cJ, 500, .inr (.inl (fun _ => 0)))), (q_2, .inl (cJ, 500, .inr (.inl (fun _ => 0)))), (q_3, .inl (cI, 500, .inl (fun _ => 0)))] := hD
  refine va_putF (D := (dC, dI)) (ci := 2) (v := .ref q_3) (ty := .array .int) (C := R_M) (T := F_M) (N := 11) hx hb hg in_M tt_M tt_M_ok nn_M hown hK hP hD hS 0 rfl rfl 4 (by decide) (hg _ wg_270) (fun _ h9 => h9) rfl hin rfl (by decide +kernel) rfl rfl (Nat.le_of_ble_eq_true rfl) d_M_init_28 (fun H locs hP hD hS => ?_)
  have hP : va_P (dC, dI) classes [(g, .inr (2, [.int 0, .int 0, .ref q_1, .ref q_2, .ref q_3, .null, .null, .null, .null, .int 0, .null])), (q_1, .inl (cJ, 500, .inr (.inl (fun _ => 0)))), (q_2, .inl (cJ, 500, .inr (.inl (fun _ => 0)))), (q_3, .inl (cI, 500, .inl (fun _ => 0)))] H := hP
  have hD : va_D A [(g, .inr (2, [.int 0, .int 0, .ref q_1, .ref q_2, .ref q_3, .null, .null, .null, .null, .int 0, .null])), (q_1, .inl (cJ, 500, .inr (.inl (fun _ => 0)))), (q_2, .inl (cJ, 500, .inr (.inl (fun _ => 0)))), (q_3, .inl (cI, 500, .inl (fun _ => 0)))] := hD
  refine lv_aload_n hx hb d_M_init_31 rfl (lv_at hl 0 rfl) ?_
  refine lv_iconst (v := 4) hx hb d_M_init_32 (by decide) ?_
  refine va_newa (atype := .int) (ty := .int) (D := (dC, dI)) (a0 := (4, .inl (fun _ => 0))) (N' := 4) hx hb (hg _ wg_45) rfl hK hP hD hS hA (fun _ => rfl) (by decide) (by decide) (by decide) (Nat.le_of_ble_eq_true rfl) (Nat.le_of_ble_eq_true rfl) d_M_init_33 (fun q_4 cA H hK9 hP hD hS => ?_)
  obtain rfl : cI = cA := (arr_I hK9).symm
  have hP : va_P (dC, dI) classes [(g, .inr (2, [.int 0, .int 0, .ref q_1, .ref q_2, .ref q_3, .null, .null, .null, .null, .int 0, .null])), (q_1, .inl (cJ, 500, .inr (.inl (fun _ => 0)))), (q_2, .inl (cJ, 500, .inr (.inl (fun _ => 0)))), (q_3, .inl (cI, 500, .inl (fun _ => 0))), (q_4, .inl (cI, 4, .inl (fun _ => 0)))] H := hP
  have hD : va_D A [(g, .inr (2, [.int 0, .int 0, .ref q_1, .ref q_2, .ref q_3, .null, .null, .null, .null, .int 0, .null])), (q_1, .inl (cJ, 500, .inr (.inl (fun _ => 0)))), (q_2, .inl (cJ, 500, .inr (.inl (fun _ => 0)))), (q_3, .inl (cI, 500, .inl (fun _ => 0))), (q_4, .inl (cI, 4, .inl (fun _ => 0)))] := hD
  refine va_putF (D := (dC, dI)) (ci := 2) (v := .ref q_4) (ty := .array .int) (C := R_M) (T := F_M) (N := 11) hx hb hg in_M tt_M tt_M_ok nn_M hown hK hP hD hS 0 rfl rfl 5 (by decide) (hg _ wg_271) (fun _ h9 => h9) rfl hin rfl (by decide +kernel) rfl rfl (Nat.le_of_ble_eq_true rfl) d_M_init_35 (fun H locs hP hD hS => ?_)
  have hP : va_P (dC, dI) classes [(g, .inr (2, [.int 0, .int 0, .ref q_1, .ref q_2, .ref q_3, .ref q_4, .null, .null, .null, .int 0, .null])), (q_1, .inl (cJ, 500, .inr (.inl (fun _ => 0)))), (q_2, .inl (cJ, 500, .inr (.inl (fun _ => 0)))), (q_3, .inl (cI, 500, .inl (fun _ => 0))), (q_4, .inl (cI, 4, .inl (fun _ => 0)))] H := hP
  have hD : va_D A [(g, .inr (2, [.int 0, .int 0, .ref q_1, .ref q_2, .ref q_3, .ref q_4, .null, .null, .null, .int 0, .null])), (q_1, .inl (cJ, 500, .inr (.inl (fun _ => 0)))), (q_2, .inl (cJ, 500, .inr (.inl (fun _ => 0)))), (q_3, .inl (cI, 500, .inl (fun _ => 0))), (q_4, .inl (cI, 4, .inl (fun _ => 0)))] := hD
  refine lv_aload_n hx hb d_M_init_38 rfl (lv_at hl 0 rfl) ?_
  refine lv_bipush (v := 64) hx hb d_M_init_39 (by decide) ?_
  refine va_newa (atype := .long) (ty := .long) (D := (dC, dI)) (a0 := (64, .inr (.inl (fun _ => 0)))) (N' := 64) hx hb (hg _ wg_44) rfl hK hP hD hS hA (fun _ => rfl) (by decide) (by decide) (by decide) (Nat.le_of_ble_eq_true rfl) (Nat.le_of_ble_eq_true rfl) d_M_init_41 (fun q_5 cA H hK9 hP hD hS => ?_)
  obtain rfl : cJ = cA := (arr_J hK9).symm
  have hP : va_P (dC, dI) classes [(g, .inr (2, [.int 0, .int 0, .ref q_1, .ref q_2, .ref q_3, .ref q_4, .null, .null, .null, .int 0, .null])), (q_1, .inl (cJ, 500, .inr (.inl (fun _ => 0)))), (q_2, .inl (cJ, 500, .inr (.inl (fun _ => 0)))), (q_3, .inl (cI, 500, .inl (fun _ => 0))), (q_4, .inl (cI, 4, .inl (fun _ => 0))), (q_5, .inl (cJ, 64, .inr (.inl (fun _ => 0))))] H := hP
  have hD : va_D A [(g, .inr (2, [.int 0, .int 0, .ref q_1, .ref q_2, .ref q_3, .ref q_4, .null, .null, .null, .int 0, .null])), (q_1, .inl (cJ, 500, .inr (.inl (fun _ => 0)))), (q_2, .inl (cJ, 500, .inr (.inl (fun _ => 0)))), (q_3, .inl (cI, 500, .inl (fun _ => 0))), (q_4, .inl (cI, 4, .inl (fun _ => 0))), (q_5, .inl (cJ, 64, .inr (.inl (fun _ => 0))))] := hD
  refine va_putF (D := (dC, dI)) (ci := 2) (v := .ref q_5) (ty := .array .long) (C := R_M) (T := F_M) (N := 11) hx hb hg in_M tt_M tt_M_ok nn_M hown hK hP hD hS 0 rfl rfl 6 (by decide) (hg _ wg_272) (fun _ h9 => h9) rfl hin rfl (by decide +kernel) rfl rfl (Nat.le_of_ble_eq_true rfl) d_M_init_43 (fun H locs hP hD hS => ?_)
  have hP : va_P (dC, dI) classes [(g, .inr (2, [.int 0, .int 0, .ref q_1, .ref q_2, .ref q_3, .ref q_4, .ref q_5, .null, .null, .int 0, .null])), (q_1, .inl (cJ, 500, .inr (.inl (fun _ => 0)))), (q_2, .inl (cJ, 500, .inr (.inl (fun _ => 0)))), (q_3, .inl (cI, 500, .inl (fun _ => 0))), (q_4, .inl (cI, 4, .inl (fun _ => 0))), (q_5, .inl (cJ, 64, .inr (.inl (fun _ => 0))))] H := hP
  have hD : va_D A [(g, .inr (2, [.int 0, .int 0, .ref q_1, .ref q_2, .ref q_3, .ref q_4, .ref q_5, .null, .null, .int 0, .null])), (q_1, .inl (cJ, 500, .inr (.inl (fun _ => 0)))), (q_2, .inl (cJ, 500, .inr (.inl (fun _ => 0)))), (q_3, .inl (cI, 500, .inl (fun _ => 0))), (q_4, .inl (cI, 4, .inl (fun _ => 0))), (q_5, .inl (cJ, 64, .inr (.inl (fun _ => 0))))] := hD
  refine lv_aload_n hx hb d_M_init_46 rfl (lv_at hl 0 rfl) ?_
  refine lv_bipush (v := 64) hx hb d_M_init_47 (by decide) ?_
  refine va_newa (atype := .long) (ty := .long) (D := (dC, dI)) (a0 := (64, .inr (.inl (fun _ => 0)))) (N' := 64) hx hb (hg _ wg_44) rfl hK hP hD hS hA (fun _ => rfl) (by decide) (by decide) (by decide) (Nat.le_of_ble_eq_true rfl) (Nat.le_of_ble_eq_true rfl) d_M_init_49 (fun q_6 cA H hK9 hP hD hS => ?_)
  obtain rfl : cJ = cA := (arr_J hK9).symm
  have hP : va_P (dC, dI) classes [(g, .inr (2, [.int 0, .int 0, .ref q_1, .ref q_2, .ref q_3, .ref q_4, .ref q_5, .null, .null, .int 0, .null])), (q_1, .inl (cJ, 500, .inr (.inl (fun _ => 0)))), (q_2, .inl (cJ, 500, .inr (.inl (fun _ => 0)))), (q_3, .inl (cI, 500, .inl (fun _ => 0))), (q_4, .inl (cI, 4, .inl (fun _ => 0))), (q_5, .inl (cJ, 64, .inr (.inl (fun _ => 0)))), (q_6, .inl (cJ, 64, .inr (.inl (fun _ => 0))))] H := hP
  have hD : va_D A [(g, .inr (2, [.int 0, .int 0, .ref q_1, .ref q_2, .ref q_3, .ref q_4, .ref q_5, .null, .null, .int 0, .null])), (q_1, .inl (cJ, 500, .inr (.inl (fun _ => 0)))), (q_2, .inl (cJ, 500, .inr (.inl (fun _ => 0)))), (q_3, .inl (cI, 500, .inl (fun _ => 0))), (q_4, .inl (cI, 4, .inl (fun _ => 0))), (q_5, .inl (cJ, 64, .inr (.inl (fun _ => 0)))), (q_6, .inl (cJ, 64, .inr (.inl (fun _ => 0))))] := hD
  refine va_putF (D := (dC, dI)) (ci := 2) (v := .ref q_6) (ty := .array .long) (C := R_M) (T := F_M) (N := 11) hx hb hg in_M tt_M tt_M_ok nn_M hown hK hP hD hS 0 rfl rfl 7 (by decide) (hg _ wg_273) (fun _ h9 => h9) rfl hin rfl (by decide +kernel) rfl rfl (Nat.le_of_ble_eq_true rfl) d_M_init_51 (fun H locs hP hD hS => ?_)
  have hP : va_P (dC, dI) classes [(g, .inr (2, [.int 0, .int 0, .ref q_1, .ref q_2, .ref q_3, .ref q_4, .ref q_5, .ref q_6, .null, .int 0, .null])), (q_1, .inl (cJ, 500, .inr (.inl (fun _ => 0)))), (q_2, .inl (cJ, 500, .inr (.inl (fun _ => 0)))), (q_3, .inl (cI, 500, .inl (fun _ => 0))), (q_4, .inl (cI, 4, .inl (fun _ => 0))), (q_5, .inl (cJ, 64, .inr (.inl (fun _ => 0)))), (q_6, .inl (cJ, 64, .inr (.inl (fun _ => 0))))] H := hP
  have hD : va_D A [(g, .inr (2, [.int 0, .int 0, .ref q_1, .ref q_2, .ref q_3, .ref q_4, .ref q_5, .ref q_6, .null, .int 0, .null])), (q_1, .inl (cJ, 500, .inr (.inl (fun _ => 0)))), (q_2, .inl (cJ, 500, .inr (.inl (fun _ => 0)))), (q_3, .inl (cI, 500, .inl (fun _ => 0))), (q_4, .inl (cI, 4, .inl (fun _ => 0))), (q_5, .inl (cJ, 64, .inr (.inl (fun _ => 0)))), (q_6, .inl (cJ, 64, .inr (.inl (fun _ => 0))))] := hD
  refine lv_aload_n hx hb d_M_init_54 rfl (lv_at hl 0 rfl) ?_
  refine lv_iconst (v := 4) hx hb d_M_init_55 (by decide) ?_
  refine va_newa (atype := .long) (ty := .long) (D := (dC, dI)) (a0 := (4, .inr (.inl (fun _ => 0)))) (N' := 4) hx hb (hg _ wg_44) rfl hK hP hD hS hA (fun _ => rfl) (by decide) (by decide) (by decide) (Nat.le_of_ble_eq_true rfl) (Nat.le_of_ble_eq_true rfl) d_M_init_56 (fun q_7 cA H hK9 hP hD hS => ?_)
  obtain rfl : cJ = cA := (arr_J hK9).symm
  have hP : va_P (dC, dI) classes [(g, .inr (2, [.int 0, .int 0, .ref q_1, .ref q_2, .ref q_3, .ref q_4, .ref q_5, .ref q_6, .null, .int 0, .null])), (q_1, .inl (cJ, 500, .inr (.inl (fun _ => 0)))), (q_2, .inl (cJ, 500, .inr (.inl (fun _ => 0)))), (q_3, .inl (cI, 500, .inl (fun _ => 0))), (q_4, .inl (cI, 4, .inl (fun _ => 0))), (q_5, .inl (cJ, 64, .inr (.inl (fun _ => 0)))), (q_6, .inl (cJ, 64, .inr (.inl (fun _ => 0)))), (q_7, .inl (cJ, 4, .inr (.inl (fun _ => 0))))] H := hP
  have hD : va_D A [(g, .inr (2, [.int 0, .int 0, .ref q_1, .ref q_2, .ref q_3, .ref q_4, .ref q_5, .ref q_6, .null, .int 0, .null])), (q_1, .inl (cJ, 500, .inr (.inl (fun _ => 0)))), (q_2, .inl (cJ, 500, .inr (.inl (fun _ => 0)))), (q_3, .inl (cI, 500, .inl (fun _ => 0))), (q_4, .inl (cI, 4, .inl (fun _ => 0))), (q_5, .inl (cJ, 64, .inr (.inl (fun _ => 0)))), (q_6, .inl (cJ, 64, .inr (.inl (fun _ => 0)))), (q_7, .inl (cJ, 4, .inr (.inl (fun _ => 0))))] := hD
  refine va_putF (D := (dC, dI)) (ci := 2) (v := .ref q_7) (ty := .array .long) (C := R_M) (T := F_M) (N := 11) hx hb hg in_M tt_M tt_M_ok nn_M hown hK hP hD hS 0 rfl rfl 8 (by decide) (hg _ wg_274) (fun _ h9 => h9) rfl hin rfl (by decide +kernel) rfl rfl (Nat.le_of_ble_eq_true rfl) d_M_init_58 (fun H locs hP hD hS => ?_)
  have hP : va_P (dC, dI) classes [(g, .inr (2, [.int 0, .int 0, .ref q_1, .ref q_2, .ref q_3, .ref q_4, .ref q_5, .ref q_6, .ref q_7, .int 0, .null])), (q_1, .inl (cJ, 500, .inr (.inl (fun _ => 0)))), (q_2, .inl (cJ, 500, .inr (.inl (fun _ => 0)))), (q_3, .inl (cI, 500, .inl (fun _ => 0))), (q_4, .inl (cI, 4, .inl (fun _ => 0))), (q_5, .inl (cJ, 64, .inr (.inl (fun _ => 0)))), (q_6, .inl (cJ, 64, .inr (.inl (fun _ => 0)))), (q_7, .inl (cJ, 4, .inr (.inl (fun _ => 0))))] H := hP
  have hD : va_D A [(g, .inr (2, [.int 0, .int 0, .ref q_1, .ref q_2, .ref q_3, .ref q_4, .ref q_5, .ref q_6, .ref q_7, .int 0, .null])), (q_1, .inl (cJ, 500, .inr (.inl (fun _ => 0)))), (q_2, .inl (cJ, 500, .inr (.inl (fun _ => 0)))), (q_3, .inl (cI, 500, .inl (fun _ => 0))), (q_4, .inl (cI, 4, .inl (fun _ => 0))), (q_5, .inl (cJ, 64, .inr (.inl (fun _ => 0)))), (q_6, .inl (cJ, 64, .inr (.inl (fun _ => 0)))), (q_7, .inl (cJ, 4, .inr (.inl (fun _ => 0))))] := hD
  refine lv_aload_n hx hb d_M_init_61 rfl (lv_at hl 0 rfl) ?_
  refine lv_bipush (v := 16) hx hb d_M_init_62 (by decide) ?_
  refine va_newa (atype := .long) (ty := .long) (D := (dC, dI)) (a0 := (16, .inr (.inl (fun _ => 0)))) (N' := 16) hx hb (hg _ wg_44) rfl hK hP hD hS hA (fun _ => rfl) (by decide) (by decide) (by decide) (Nat.le_of_ble_eq_true rfl) (Nat.le_of_ble_eq_true rfl) d_M_init_64 (fun q_8 cA H hK9 hP hD hS => ?_)
  obtain rfl : cJ = cA := (arr_J hK9).symm
  have hP : va_P (dC, dI) classes [(g, .inr (2, [.int 0, .int 0, .ref q_1, .ref q_2, .ref q_3, .ref q_4, .ref q_5, .ref q_6, .ref q_7, .int 0, .null])), (q_1, .inl (cJ, 500, .inr (.inl (fun _ => 0)))), (q_2, .inl (cJ, 500, .inr (.inl (fun _ => 0)))), (q_3, .inl (cI, 500, .inl (fun _ => 0))), (q_4, .inl (cI, 4, .inl (fun _ => 0))), (q_5, .inl (cJ, 64, .inr (.inl (fun _ => 0)))), (q_6, .inl (cJ, 64, .inr (.inl (fun _ => 0)))), (q_7, .inl (cJ, 4, .inr (.inl (fun _ => 0)))), (q_8, .inl (cJ, 16, .inr (.inl (fun _ => 0))))] H := hP
  have hD : va_D A [(g, .inr (2, [.int 0, .int 0, .ref q_1, .ref q_2, .ref q_3, .ref q_4, .ref q_5, .ref q_6, .ref q_7, .int 0, .null])), (q_1, .inl (cJ, 500, .inr (.inl (fun _ => 0)))), (q_2, .inl (cJ, 500, .inr (.inl (fun _ => 0)))), (q_3, .inl (cI, 500, .inl (fun _ => 0))), (q_4, .inl (cI, 4, .inl (fun _ => 0))), (q_5, .inl (cJ, 64, .inr (.inl (fun _ => 0)))), (q_6, .inl (cJ, 64, .inr (.inl (fun _ => 0)))), (q_7, .inl (cJ, 4, .inr (.inl (fun _ => 0)))), (q_8, .inl (cJ, 16, .inr (.inl (fun _ => 0))))] := hD
  refine va_putF (D := (dC, dI)) (ci := 2) (v := .ref q_8) (ty := .array .long) (C := R_M) (T := F_M) (N := 11) hx hb hg in_M tt_M tt_M_ok nn_M hown hK hP hD hS 0 rfl rfl 10 (by decide) (hg _ wg_276) (fun _ h9 => h9) rfl hin rfl (by decide +kernel) rfl rfl (Nat.le_of_ble_eq_true rfl) d_M_init_66 (fun H locs hP hD hS => ?_)
  have hP : va_P (dC, dI) classes [(g, .inr (2, [.int 0, .int 0, .ref q_1, .ref q_2, .ref q_3, .ref q_4, .ref q_5, .ref q_6, .ref q_7, .int 0, .ref q_8])), (q_1, .inl (cJ, 500, .inr (.inl (fun _ => 0)))), (q_2, .inl (cJ, 500, .inr (.inl (fun _ => 0)))), (q_3, .inl (cI, 500, .inl (fun _ => 0))), (q_4, .inl (cI, 4, .inl (fun _ => 0))), (q_5, .inl (cJ, 64, .inr (.inl (fun _ => 0)))), (q_6, .inl (cJ, 64, .inr (.inl (fun _ => 0)))), (q_7, .inl (cJ, 4, .inr (.inl (fun _ => 0)))), (q_8, .inl (cJ, 16, .inr (.inl (fun _ => 0))))] H := hP
  have hD : va_D A [(g, .inr (2, [.int 0, .int 0, .ref q_1, .ref q_2, .ref q_3, .ref q_4, .ref q_5, .ref q_6, .ref q_7, .int 0, .ref q_8])), (q_1, .inl (cJ, 500, .inr (.inl (fun _ => 0)))), (q_2, .inl (cJ, 500, .inr (.inl (fun _ => 0)))), (q_3, .inl (cI, 500, .inl (fun _ => 0))), (q_4, .inl (cI, 4, .inl (fun _ => 0))), (q_5, .inl (cJ, 64, .inr (.inl (fun _ => 0)))), (q_6, .inl (cJ, 64, .inr (.inl (fun _ => 0)))), (q_7, .inl (cJ, 4, .inr (.inl (fun _ => 0)))), (q_8, .inl (cJ, 16, .inr (.inl (fun _ => 0))))] := hD
  have hP9 := hP.sub (ws' := [(g, .inr (2, [.int 0, .int 0, .ref q_1, .ref q_2, .ref q_3, .ref q_4, .ref q_5, .ref q_6, .ref q_7, .int 0, .ref q_8])), (q_1, .inl (cJ, 500, .inr (.inl (fun _ => 0)))), (q_2, .inl (cJ, 500, .inr (.inl (fun _ => 0)))), (q_3, .inl (cI, 500, .inl (fun _ => 0))), (q_4, .inl (cI, 4, .inl (fun _ => 0))), (q_5, .inl (cJ, 64, .inr (.inl (fun _ => 0)))), (q_6, .inl (cJ, 64, .inr (.inl (fun _ => 0)))), (q_7, .inl (cJ, 4, .inr (.inl (fun _ => 0)))), (q_8, .inl (cJ, 16, .inr (.inl (fun _ => 0))))]) [0, 1, 2, 3, 4, 5, 6, 7, 8] rfl
  have hD9 := hD.sub (ws' := [(g, .inr (2, [.int 0, .int 0, .ref q_1, .ref q_2, .ref q_3, .ref q_4, .ref q_5, .ref q_6, .ref q_7, .int 0, .ref q_8])), (q_1, .inl (cJ, 500, .inr (.inl (fun _ => 0)))), (q_2, .inl (cJ, 500, .inr (.inl (fun _ => 0)))), (q_3, .inl (cI, 500, .inl (fun _ => 0))), (q_4, .inl (cI, 4, .inl (fun _ => 0))), (q_5, .inl (cJ, 64, .inr (.inl (fun _ => 0)))), (q_6, .inl (cJ, 64, .inr (.inl (fun _ => 0)))), (q_7, .inl (cJ, 4, .inr (.inl (fun _ => 0)))), (q_8, .inl (cJ, 16, .inr (.inl (fun _ => 0))))]) [0, 1, 2, 3, 4, 5, 6, 7, 8] (by decide) rfl
  refine W.widen (k := 8) (n := 1652) (Nat.le_of_ble_eq_true rfl) (Nat.le_of_ble_eq_true rfl) ?_
  exact W.vret hx hb hr (fun t ht hW => ⟨⟨(fun i => ([q_1, q_2, q_3, q_4, q_5, q_6, q_7, q_8] : List Nat).getD i 0), rfl, trivial, wb_of ht hW hP9 hK hD9⟩, hS.F ht⟩) hS.2.2 d_M_init_69
