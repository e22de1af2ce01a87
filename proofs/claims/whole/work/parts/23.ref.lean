def f_M_thrown (cd : Int32) : Int32 := cd
set_option maxHeartbeats 4000000 in
set_option maxRecDepth 100000 in
theorem k_M_thrown (l : Launch) (dC : Nat → ClassId) (dI : Nat → Nat → Nat) (cJ cI cT : ClassId) (g m1 m2 m3 m4 m5 m6 m7 m8 : Nat) (cd am wc : Int32) : Met l y_M_thrown w_M_thrown ({ frames := 0, cells := 0, slots := 0, locals := 0 }) (va_Pc [.ref g] (wd dC dI cJ cI cT [(g, .inr (2, [.int cd, .int am, .ref m1, .ref m2, .ref m3, .ref m4, .ref m5, .ref m6, .ref m7, .int wc, .ref m8]))])) (k2_QcV (.int (f_M_thrown cd))) 0 0 (fun _ => False) := by
  refine Met.ofW (cc := c_M_thrown) (maxL := 1) (ret := (Option.some Jvm.ClassFile.FieldType.int)) (by decide) rfl ?_
  intro p e s m args below meth c s₁ B hml hv
  obtain ⟨rfl, hP, hK⟩ := hv
  have hx := B.exec
  have hb := B.bytes
  have hr := B.returns
  have hts := atoms_spec (ws := w_M_thrown) B.pre
  have hg : ∀ w ∈ WG, w.before _ s = true := fun w h => hts w (List.mem_cons_of_mem _ h)
  have hown : s.vm.findClass R_M = some m.cls := findClass_of_methodNamed B.named
  have hlocks := B.notSynchronized
  have hl := lv_entry ([.ref g]) (n := 1) (Nat.le_of_ble_eq_true rfl)
  rw [lg_entry_eq]
  generalize (lg_sl ([.ref g]) ++ List.replicate (1 - (lg_sl ([.ref g])).length) Slot.unset).toArray = ls at hl ⊢
  have hl : lv_has ls 1 [(0, .ref g)] := hl
  have hP : va_P (dC, dI) classes [(g, .inr (2, [.int cd, .int am, .ref m1, .ref m2, .ref m3, .ref m4, .ref m5, .ref m6, .ref m7, .int wc, .ref m8]))] s.heap := hP
  refine lv_aload_n hx hb d_M_thrown_0 rfl (lv_at hl 0 rfl) ?_
  refine va_get (D := (dC, dI)) (ci := 2) (v := .int cd) (C := R_M) (T := F_M) (N := 11) hx hb hg in_M hown hK hP 0 rfl rfl 0 (by decide) (hg _ wg_266) (fun _ h9 => h9) rfl d_M_thrown_1 ?_
  have hz : f_M_thrown cd = cd := by unfold f_M_thrown; rfl
  exact W.iret hx hb hr (fun t ht _ => ⟨by rw [hz], ht⟩) (fun _ h => by cases h) d_M_thrown_4
def f_M_isAmount (a am : Int32) : Int32 := if a < 0 then 0 else if am ≤ a then 0 else 1
set_option maxHeartbeats 4000000 in
set_option maxRecDepth 100000 in
theorem k_M_isAmount (l : Launch) (dC : Nat → ClassId) (dI : Nat → Nat → Nat) (cJ cI cT : ClassId) (g m1 m2 m3 m4 m5 m6 m7 m8 : Nat) (cd am wc : Int32) (a : Int32) : Met l y_M_isAmount w_M_isAmount ({ frames := 0, cells := 0, slots := 0, locals := 0 }) (va_Pc [.ref g, .int a] (wd dC dI cJ cI cT [(g, .inr (2, [.int cd, .int am, .ref m1, .ref m2, .ref m3, .ref m4, .ref m5, .ref m6, .ref m7, .int wc, .ref m8]))])) (k2_QcV (.int (f_M_isAmount a am))) 0 0 (fun _ => False) := by
  refine Met.ofW (cc := c_M_isAmount) (maxL := 2) (ret := (Option.some Jvm.ClassFile.FieldType.boolean)) (by decide) rfl ?_
  intro p e s m args below meth c s₁ B hml hv
  obtain ⟨rfl, hP, hK⟩ := hv
  have hx := B.exec
  have hb := B.bytes
  have hr := B.returns
  have hts := atoms_spec (ws := w_M_isAmount) B.pre
  have hg : ∀ w ∈ WG, w.before _ s = true := fun w h => hts w (List.mem_cons_of_mem _ h)
  have hown : s.vm.findClass R_M = some m.cls := findClass_of_methodNamed B.named
  have hlocks := B.notSynchronized
  have hl := lv_entry ([.ref g, .int a]) (n := 2) (Nat.le_of_ble_eq_true rfl)
  rw [lg_entry_eq]
  generalize (lg_sl ([.ref g, .int a]) ++ List.replicate (2 - (lg_sl ([.ref g, .int a])).length) Slot.unset).toArray = ls at hl ⊢
  have hl : lv_has ls 2 [(0, .ref g), (1, .int a)] := hl
  have hP : va_P (dC, dI) classes [(g, .inr (2, [.int cd, .int am, .ref m1, .ref m2, .ref m3, .ref m4, .ref m5, .ref m6, .ref m7, .int wc, .ref m8]))] s.heap := hP
  refine lv_iload_n hx hb d_M_isAmount_0 rfl (lv_at hl 1 rfl) ?_
  refine lv_if_lt (tgt := 16) hx hb d_M_isAmount_1 (by decide) (fun c_1 => ?_) (fun c_1 => ?_)
  · skip
    refine lv_iconst (v := 0) hx hb d_M_isAmount_16 (by decide) ?_
    have hz : f_M_isAmount a am = 0 := by unfold f_M_isAmount; rw [if_pos c_1]
    exact W.zret hx hb hr rfl (fun t ht _ => ⟨by rw [hz], ht⟩) (fun _ h => by cases h) d_M_isAmount_17
  · skip
    refine lv_iload_n hx hb d_M_isAmount_4 rfl (lv_at hl 1 rfl) ?_
    refine lv_aload_n hx hb d_M_isAmount_5 rfl (lv_at hl 0 rfl) ?_
    refine va_get (D := (dC, dI)) (ci := 2) (v := .int am) (C := R_M) (T := F_M) (N := 11) hx hb hg in_M hown hK hP 0 rfl rfl 1 (by decide) (hg _ wg_267) (fun _ h9 => h9) rfl d_M_isAmount_6 ?_
    refine lv_icmp_ge (tgt := 16) hx hb d_M_isAmount_9 (by decide) (fun c_2 => ?_) (fun c_2 => ?_)
    · skip
      refine lv_iconst (v := 0) hx hb d_M_isAmount_16 (by decide) ?_
      have hz : f_M_isAmount a am = 0 := by unfold f_M_isAmount; rw [if_neg c_1, if_pos c_2]
      exact W.zret hx hb hr rfl (fun t ht _ => ⟨by rw [hz], ht⟩) (fun _ h => by cases h) d_M_isAmount_17
    · skip
      refine lv_iconst (v := 1) hx hb d_M_isAmount_12 (by decide) ?_
      refine lv_goto (tgt := 17) hx hb d_M_isAmount_13 (by decide) ?_
      have hz : f_M_isAmount a am = 1 := by unfold f_M_isAmount; rw [if_neg c_1, if_neg c_2]
      exact W.zret hx hb hr rfl (fun t ht _ => ⟨by rw [hz], ht⟩) (fun _ h => by cases h) d_M_isAmount_17
theorem mam_in {a n : Int32} (c : ¬ f_M_isAmount a n = 0) (hn : n.toInt ≤ (500 : Nat)) : vp_in a 500 := by
  unfold f_M_isAmount at c
  by_cases h0 : a < 0
  · rw [if_pos h0] at c; exact absurd rfl c
  · rw [if_neg h0] at c
    by_cases h1 : n ≤ a
    · rw [if_pos h1] at c; exact absurd rfl c
    · exact in_nle h0 h1 hn
theorem in_ne {n : Int32} (h0 : 0 ≤ n.toInt) (hn : n.toInt ≤ (500 : Nat)) (h : ¬ n = 500) : vp_in n 500 := by
  rw [vp_in_iff]
  have h3 : n.toInt ≠ 500 := fun e => h (Int32.toInt_inj.mp e)
  omega
def f_M_make (up dn : Nat → Int64) (mu : Nat → Int32) (am : Int32) (x y : Int64) (z : Int32) : Int32 × (Nat → Int64) × (Nat → Int64) × (Nat → Int32) × Int32 := if 0 ≤ y then if 0 ≤ y then if 2147483647 < (x / (f_M_common x y)) then ((-2), (up, dn, mu, am)) else if (x / (f_M_common x y)) < (-2147483647) then ((-2), (up, dn, mu, am)) else if 2147483647 < (y / (f_M_common x y)) then ((-2), (up, dn, mu, am)) else if am = 500 then ((-2), (up, dn, mu, am)) else ((am + 1) - 1, (vp_updL up am.toNatClampNeg (x / (f_M_common x y)), vp_updL dn am.toNatClampNeg (y / (f_M_common x y)), upd mu am.toNatClampNeg z, (am + 1))) else if 2147483647 < (x / (f_M_common x y)) then ((-2), (up, dn, mu, am)) else if (x / (f_M_common x y)) < (-2147483647) then ((-2), (up, dn, mu, am)) else if 2147483647 < ((-y) / (f_M_common x y)) then ((-2), (up, dn, mu, am)) else if am = 500 then ((-2), (up, dn, mu, am)) else ((am + 1) - 1, (vp_updL up am.toNatClampNeg (x / (f_M_common x y)), vp_updL dn am.toNatClampNeg ((-y) / (f_M_common x y)), upd mu am.toNatClampNeg z, (am + 1))) else if 0 ≤ y then if 2147483647 < ((-x) / (f_M_common x y)) then ((-2), (up, dn, mu, am)) else if ((-x) / (f_M_common x y)) < (-2147483647) then ((-2), (up, dn, mu, am)) else if 2147483647 < (y / (f_M_common x y)) then ((-2), (up, dn, mu, am)) else if am = 500 then ((-2), (up, dn, mu, am)) else ((am + 1) - 1, (vp_updL up am.toNatClampNeg ((-x) / (f_M_common x y)), vp_updL dn am.toNatClampNeg (y / (f_M_common x y)), upd mu am.toNatClampNeg z, (am + 1))) else if 2147483647 < ((-x) / (f_M_common x y)) then ((-2), (up, dn, mu, am)) else if ((-x) / (f_M_common x y)) < (-2147483647) then ((-2), (up, dn, mu, am)) else if 2147483647 < ((-y) / (f_M_common x y)) then ((-2), (up, dn, mu, am)) else if am = 500 then ((-2), (up, dn, mu, am)) else ((am + 1) - 1, (vp_updL up am.toNatClampNeg ((-x) / (f_M_common x y)), vp_updL dn am.toNatClampNeg ((-y) / (f_M_common x y)), upd mu am.toNatClampNeg z, (am + 1)))
set_option maxHeartbeats 4000000 in
set_option maxRecDepth 100000 in
theorem k_M_make (l : Launch) (dC : Nat → ClassId) (dI : Nat → Nat → Nat) (cJ cI cT : ClassId) (g m1 m2 m3 m4 m5 m6 m7 m8 : Nat) (cd am wc : Int32) (up dn : Nat → Int64) (mu : Nat → Int32) (x y : Int64) (z : Int32) (sz : Nat) (ha0 : 0 ≤ am.toInt) (ha : am.toInt ≤ (500 : Nat)) (hy : ¬ y = 0) : Met l y_M_make w_M_make ({ frames := 1, cells := 0, slots := 0, locals := 29 }) (va_Pc [.ref g, .long x, .long y, .int z] (wx dC dI cJ cI cT sz [(g, .inr (2, [.int cd, .int am, .ref m1, .ref m2, .ref m3, .ref m4, .ref m5, .ref m6, .ref m7, .int wc, .ref m8])), (m1, .inl (cJ, 500, .inr (.inl up))), (m2, .inl (cJ, 500, .inr (.inl dn))), (m3, .inl (cI, 500, .inl mu))])) (va_Qi (fun (r9 : Int32) (u9 : (Nat → Int64) × (Nat → Int64) × (Nat → Int32) × Int32) => (r9, u9) = f_M_make up dn mu am x y z) (fun u => wb dC dI cJ cI cT (va_A [(g, .inr (2, [.int cd, .int am, .ref m1, .ref m2, .ref m3, .ref m4, .ref m5, .ref m6, .ref m7, .int wc, .ref m8])), (m1, .inl (cJ, 500, .inr (.inl up))), (m2, .inl (cJ, 500, .inr (.inl dn))), (m3, .inl (cI, 500, .inl mu))] sz) [(g, .inr (2, [.int cd, .int u.2.2.2, .ref m1, .ref m2, .ref m3, .ref m4, .ref m5, .ref m6, .ref m7, .int wc, .ref m8])), (m1, .inl (cJ, 500, .inr (.inl u.1))), (m2, .inl (cJ, 500, .inr (.inl u.2.1))), (m3, .inl (cI, 500, .inl u.2.2.1))]) (va_A [(g, .inr (2, [.int cd, .int am, .ref m1, .ref m2, .ref m3, .ref m4, .ref m5, .ref m6, .ref m7, .int wc, .ref m8])), (m1, .inl (cJ, 500, .inr (.inl up))), (m2, .inl (cJ, 500, .inr (.inl dn))), (m3, .inl (cI, 500, .inl mu))] sz)) 0 0 (va_A [(g, .inr (2, [.int cd, .int am, .ref m1, .ref m2, .ref m3, .ref m4, .ref m5, .ref m6, .ref m7, .int wc, .ref m8])), (m1, .inl (cJ, 500, .inr (.inl up))), (m2, .inl (cJ, 500, .inr (.inl dn))), (m3, .inl (cI, 500, .inl mu))] sz) := by
  refine Met.ofW (cc := c_M_make) (maxL := 12) (ret := (Option.some Jvm.ClassFile.FieldType.int)) (by decide) rfl ?_
  intro p e s m args below meth c s₁ B hml hv
  obtain ⟨rfl, hsz, hP, hK, hD0⟩ := hv
  have hx := B.exec
  have hb := B.bytes
  have hr := B.returns
  have hts := atoms_spec (ws := w_M_make) B.pre
  have hg : ∀ w ∈ WG, w.before _ s = true := fun w h => hts w (List.mem_cons_of_mem _ h)
  have hown : s.vm.findClass R_M = some m.cls := findClass_of_methodNamed B.named
  have hlocks := B.notSynchronized
  have hl := lv_entry ([.ref g, .long x, .long y, .int z]) (n := 12) (Nat.le_of_ble_eq_true rfl)
  rw [lg_entry_eq]
  generalize (lg_sl ([.ref g, .long x, .long y, .int z]) ++ List.replicate (12 - (lg_sl ([.ref g, .long x, .long y, .int z])).length) Slot.unset).toArray = ls at hl ⊢
  have hl : lv_has ls 12 [(0, .ref g), (1, .long x), (3, .long y), (5, .int z)] := hl
  subst hsz
  have hD := hD0.self (sz := s.heap.size)
  generalize hAe : va_A [(g, .inr (2, [.int cd, .int am, .ref m1, .ref m2, .ref m3, .ref m4, .ref m5, .ref m6, .ref m7, .int wc, .ref m8])), (m1, .inl (cJ, 500, .inr (.inl up))), (m2, .inl (cJ, 500, .inr (.inl dn))), (m3, .inl (cI, 500, .inl mu))] s.heap.size = A at hD ⊢
  have hA : ∀ q : Nat, s.heap.size ≤ q → A q := fun q h => by rw [← hAe]; exact Or.inr h
  have hS : va_S A s.heap s.heap [] := va_S.rf
  have hP : va_P (dC, dI) classes [(g, .inr (2, [.int cd, .int am, .ref m1, .ref m2, .ref m3, .ref m4, .ref m5, .ref m6, .ref m7, .int wc, .ref m8])), (m1, .inl (cJ, 500, .inr (.inl up))), (m2, .inl (cJ, 500, .inr (.inl dn))), (m3, .inl (cI, 500, .inl mu))] s.heap := hP
  have hD : va_D A [(g, .inr (2, [.int cd, .int am, .ref m1, .ref m2, .ref m3, .ref m4, .ref m5, .ref m6, .ref m7, .int wc, .ref m8])), (m1, .inl (cJ, 500, .inr (.inl up))), (m2, .inl (cJ, 500, .inr (.inl dn))), (m3, .inl (cI, 500, .inl mu))] := hD
  skip
  refine lv_lload_n hx hb d_M_make_0 rfl (lv_at hl 1 rfl) ?_
  refine lv_lload_n hx hb d_M_make_1 rfl (lv_at hl 2 rfl) ?_
  refine W.callV (W.runS (As := [.long x, .long y]) (rest := []) ⟨hx, hb, hml, hown, hg⟩ (k_M_common l x y) (q_S 2 hg wg_303 wg_301 wg_302 wg_15 rfl rfl (by decide +kernel) ⟨Nat.le_of_ble_eq_true rfl, Nat.le_of_ble_eq_true rfl⟩) ⟨nw_blind, fun _ _ _ => ⟨rfl, trivial⟩⟩ rfl rfl hl.1 rfl (lv_room (Nat.le_of_ble_eq_true rfl)) d_M_make_2 ⟨Nat.le_of_ble_eq_true rfl, Nat.le_of_ble_eq_true rfl⟩) ?_
  refine W.eq (g2 := F0 m 5 ls (.long (f_M_common x y) :: [])) rfl ?_
  refine lv_topl (fun v_1 ev_1 => ?_)
  refine lv_lstore (lv' := [(6, .long v_1), (0, .ref g), (1, .long x), (3, .long y), (5, .int z)]) hx hb d_M_make_5 hl (by decide) rfl (fun ls hl => ?_)
  refine lv_lload_n hx hb d_M_make_7 rfl (lv_at hl 3 rfl) ?_
  refine lv_lconst (v := 0) hx hb d_M_make_8 (by decide) ?_
  refine W.lcmp hx hb d_M_make_9 ?_
  refine lv_if_ge (tgt := 18) hx hb d_M_make_10 (by decide) (fun c_2 => ?_) (fun c_2 => ?_)
  · skip
    rw [lg_cmp_ge] at c_2
    refine lv_lload_n hx hb d_M_make_18 rfl (lv_at hl 2 rfl) ?_
    refine lv_lload hx hb d_M_make_19 (lv_at hl 0 rfl) ?_
    refine lv_ldiv hx hb d_M_make_21 (by rw [ev_1]; exact nz_g hy) ?_
    refine lv_topl (fun v_3 ev_3 => ?_)
    refine lv_lstore (lv' := [(8, .long v_3), (6, .long v_1), (0, .ref g), (1, .long x), (3, .long y), (5, .int z)]) hx hb d_M_make_22 hl (by decide) rfl (fun ls hl => ?_)
    refine lv_lload_n hx hb d_M_make_24 rfl (lv_at hl 4 rfl) ?_
    refine lv_lconst (v := 0) hx hb d_M_make_25 (by decide) ?_
    refine W.lcmp hx hb d_M_make_26 ?_
    refine lv_if_ge (tgt := 35) hx hb d_M_make_27 (by decide) (fun c_4 => ?_) (fun c_4 => ?_)
    · skip
      rw [lg_cmp_ge] at c_4
      refine lv_lload_n hx hb d_M_make_35 rfl (lv_at hl 4 rfl) ?_
      refine lv_lload hx hb d_M_make_36 (lv_at hl 1 rfl) ?_
      refine lv_ldiv hx hb d_M_make_38 (by rw [ev_1]; exact nz_g hy) ?_
      refine lv_topl (fun v_5 ev_5 => ?_)
      refine lv_lstore (lv' := [(10, .long v_5), (8, .long v_3), (6, .long v_1), (0, .ref g), (1, .long x), (3, .long y), (5, .int z)]) hx hb d_M_make_39 hl (by decide) rfl (fun ls hl => ?_)
      refine lv_lload hx hb d_M_make_41 (lv_at hl 1 rfl) ?_
      refine lv_ldc2 (v := 2147483647) hx hb hown (hg _ wg_304) d_M_make_43 ?_
      refine W.lcmp hx hb d_M_make_46 ?_
      refine lv_if_gt (tgt := 78) hx hb d_M_make_47 (by decide) (fun c_6 => ?_) (fun c_6 => ?_)
      · skip
        rw [lg_cmp_gt] at c_6
        refine lv_bipush (v := (-2)) hx hb d_M_make_78 (by decide) ?_
        subst ev_5
        subst ev_3
        subst ev_1
        have hP9 := hP.sub (ws' := [(g, .inr (2, [.int cd, .int am, .ref m1, .ref m2, .ref m3, .ref m4, .ref m5, .ref m6, .ref m7, .int wc, .ref m8])), (m1, .inl (cJ, 500, .inr (.inl up))), (m2, .inl (cJ, 500, .inr (.inl dn))), (m3, .inl (cI, 500, .inl mu))]) [0, 1, 2, 3] rfl
        have hD9 := hD.sub (ws' := [(g, .inr (2, [.int cd, .int am, .ref m1, .ref m2, .ref m3, .ref m4, .ref m5, .ref m6, .ref m7, .int wc, .ref m8])), (m1, .inl (cJ, 500, .inr (.inl up))), (m2, .inl (cJ, 500, .inr (.inl dn))), (m3, .inl (cI, 500, .inl mu))]) [0, 1, 2, 3] (by decide) rfl
        have hz : ((-2), (up, dn, mu, am)) = f_M_make up dn mu am x y z := by unfold f_M_make; rw [if_pos c_2, if_pos c_4, if_pos c_6]
        exact W.iret (v := (-2)) hx hb hr (fun t ht hW => ⟨⟨(-2), (up, dn, mu, am), rfl, hz, wb_of ht hW hP9 hK hD9⟩, hS.F ht⟩) hS.2.2 d_M_make_80
      · skip
        rw [lg_cmp_gt] at c_6
        refine lv_lload hx hb d_M_make_50 (lv_at hl 1 rfl) ?_
        refine lv_ldc2 (v := (-2147483647)) hx hb hown (hg _ wg_305) d_M_make_52 ?_
        refine W.lcmp hx hb d_M_make_55 ?_
        refine lv_if_lt (tgt := 78) hx hb d_M_make_56 (by decide) (fun c_7 => ?_) (fun c_7 => ?_)
        · skip
          rw [lg_cmp_lt] at c_7
          refine lv_bipush (v := (-2)) hx hb d_M_make_78 (by decide) ?_
          subst ev_5
          subst ev_3
          subst ev_1
          have hP9 := hP.sub (ws' := [(g, .inr (2, [.int cd, .int am, .ref m1, .ref m2, .ref m3, .ref m4, .ref m5, .ref m6, .ref m7, .int wc, .ref m8])), (m1, .inl (cJ, 500, .inr (.inl up))), (m2, .inl (cJ, 500, .inr (.inl dn))), (m3, .inl (cI, 500, .inl mu))]) [0, 1, 2, 3] rfl
          have hD9 := hD.sub (ws' := [(g, .inr (2, [.int cd, .int am, .ref m1, .ref m2, .ref m3, .ref m4, .ref m5, .ref m6, .ref m7, .int wc, .ref m8])), (m1, .inl (cJ, 500, .inr (.inl up))), (m2, .inl (cJ, 500, .inr (.inl dn))), (m3, .inl (cI, 500, .inl mu))]) [0, 1, 2, 3] (by decide) rfl
          have hz : ((-2), (up, dn, mu, am)) = f_M_make up dn mu am x y z := by unfold f_M_make; rw [if_pos c_2, if_pos c_4, if_neg c_6, if_pos c_7]
          exact W.iret (v := (-2)) hx hb hr (fun t ht hW => ⟨⟨(-2), (up, dn, mu, am), rfl, hz, wb_of ht hW hP9 hK hD9⟩, hS.F ht⟩) hS.2.2 d_M_make_80
        · skip
          rw [lg_cmp_lt] at c_7
          refine lv_lload hx hb d_M_make_59 (lv_at hl 0 rfl) ?_
          refine lv_ldc2 (v := 2147483647) hx hb hown (hg _ wg_304) d_M_make_61 ?_
          refine W.lcmp hx hb d_M_make_64 ?_
          refine lv_if_gt (tgt := 78) hx hb d_M_make_65 (by decide) (fun c_8 => ?_) (fun c_8 => ?_)
          · skip
            rw [lg_cmp_gt] at c_8
            refine lv_bipush (v := (-2)) hx hb d_M_make_78 (by decide) ?_
            subst ev_5
            subst ev_3
            subst ev_1
            have hP9 := hP.sub (ws' := [(g, .inr (2, [.int cd, .int am, .ref m1, .ref m2, .ref m3, .ref m4, .ref m5, .ref m6, .ref m7, .int wc, .ref m8])), (m1, .inl (cJ, 500, .inr (.inl up))), (m2, .inl (cJ, 500, .inr (.inl dn))), (m3, .inl (cI, 500, .inl mu))]) [0, 1, 2, 3] rfl
            have hD9 := hD.sub (ws' := [(g, .inr (2, [.int cd, .int am, .ref m1, .ref m2, .ref m3, .ref m4, .ref m5, .ref m6, .ref m7, .int wc, .ref m8])), (m1, .inl (cJ, 500, .inr (.inl up))), (m2, .inl (cJ, 500, .inr (.inl dn))), (m3, .inl (cI, 500, .inl mu))]) [0, 1, 2, 3] (by decide) rfl
            have hz : ((-2), (up, dn, mu, am)) = f_M_make up dn mu am x y z := by unfold f_M_make; rw [if_pos c_2, if_pos c_4, if_neg c_6, if_neg c_7, if_pos c_8]
            exact W.iret (v := (-2)) hx hb hr (fun t ht hW => ⟨⟨(-2), (up, dn, mu, am), rfl, hz, wb_of ht hW hP9 hK hD9⟩, hS.F ht⟩) hS.2.2 d_M_make_80
          · skip
            rw [lg_cmp_gt] at c_8
            refine lv_aload_n hx hb d_M_make_68 rfl (lv_at hl 3 rfl) ?_
            refine va_get (D := (dC, dI)) (ci := 2) (v := .int am) (C := R_M) (T := F_M) (N := 11) hx hb hg in_M hown hK hP 0 rfl rfl 1 (by decide) (hg _ wg_267) (fun _ h9 => h9) rfl d_M_make_69 ?_
            refine lv_sipush (v := 500) hx hb d_M_make_72 (by decide) ?_
            refine lv_icmp_ne (tgt := 81) hx hb d_M_make_75 (by decide) (fun c_9 => ?_) (fun c_9 => ?_)
            · skip
              refine lv_aload_n hx hb d_M_make_81 rfl (lv_at hl 3 rfl) ?_
              refine va_get (D := (dC, dI)) (ci := 2) (v := .ref m1) (C := R_M) (T := F_M) (N := 11) hx hb hg in_M hown hK hP 0 rfl rfl 2 (by decide) (hg _ wg_268) (fun _ h9 => h9) rfl d_M_make_82 ?_
              refine lv_aload_n hx hb d_M_make_85 rfl (lv_at hl 3 rfl) ?_
              refine va_get (D := (dC, dI)) (ci := 2) (v := .int am) (C := R_M) (T := F_M) (N := 11) hx hb hg in_M hown hK hP 0 rfl rfl 1 (by decide) (hg _ wg_267) (fun _ h9 => h9) rfl d_M_make_86 ?_
              refine lv_lload hx hb d_M_make_89 (lv_at hl 1 rfl) ?_
              refine va_last hx hb hK hP hD hS 1 0 rfl rfl (in_ne ha0 ha c_9) d_M_make_91 (fun H locs hP hD hS => ?_)
              have hP : va_P (dC, dI) classes [(g, .inr (2, [.int cd, .int am, .ref m1, .ref m2, .ref m3, .ref m4, .ref m5, .ref m6, .ref m7, .int wc, .ref m8])), (m1, .inl (cJ, 500, .inr (.inl (vp_updL up am.toNatClampNeg v_3)))), (m2, .inl (cJ, 500, .inr (.inl dn))), (m3, .inl (cI, 500, .inl mu))] H := hP
              have hD : va_D A [(g, .inr (2, [.int cd, .int am, .ref m1, .ref m2, .ref m3, .ref m4, .ref m5, .ref m6, .ref m7, .int wc, .ref m8])), (m1, .inl (cJ, 500, .inr (.inl (vp_updL up am.toNatClampNeg v_3)))), (m2, .inl (cJ, 500, .inr (.inl dn))), (m3, .inl (cI, 500, .inl mu))] := hD
              refine lv_aload_n hx hb d_M_make_92 rfl (lv_at hl 3 rfl) ?_
              refine va_get (D := (dC, dI)) (ci := 2) (v := .ref m2) (C := R_M) (T := F_M) (N := 11) hx hb hg in_M hown hK hP 0 rfl rfl 3 (by decide) (hg _ wg_269) (fun _ h9 => h9) rfl d_M_make_93 ?_
              refine lv_aload_n hx hb d_M_make_96 rfl (lv_at hl 3 rfl) ?_
              refine va_get (D := (dC, dI)) (ci := 2) (v := .int am) (C := R_M) (T := F_M) (N := 11) hx hb hg in_M hown hK hP 0 rfl rfl 1 (by decide) (hg _ wg_267) (fun _ h9 => h9) rfl d_M_make_97 ?_
              refine lv_lload hx hb d_M_make_100 (lv_at hl 0 rfl) ?_
              refine va_last hx hb hK hP hD hS 2 0 rfl rfl (in_ne ha0 ha c_9) d_M_make_102 (fun H locs hP hD hS => ?_)
              have hP : va_P (dC, dI) classes [(g, .inr (2, [.int cd, .int am, .ref m1, .ref m2, .ref m3, .ref m4, .ref m5, .ref m6, .ref m7, .int wc, .ref m8])), (m1, .inl (cJ, 500, .inr (.inl (vp_updL up am.toNatClampNeg v_3)))), (m2, .inl (cJ, 500, .inr (.inl (vp_updL dn am.toNatClampNeg v_5)))), (m3, .inl (cI, 500, .inl mu))] H := hP
              have hD : va_D A [(g, .inr (2, [.int cd, .int am, .ref m1, .ref m2, .ref m3, .ref m4, .ref m5, .ref m6, .ref m7, .int wc, .ref m8])), (m1, .inl (cJ, 500, .inr (.inl (vp_updL up am.toNatClampNeg v_3)))), (m2, .inl (cJ, 500, .inr (.inl (vp_updL dn am.toNatClampNeg v_5)))), (m3, .inl (cI, 500, .inl mu))] := hD
              refine lv_aload_n hx hb d_M_make_103 rfl (lv_at hl 3 rfl) ?_
              refine va_get (D := (dC, dI)) (ci := 2) (v := .ref m3) (C := R_M) (T := F_M) (N := 11) hx hb hg in_M hown hK hP 0 rfl rfl 4 (by decide) (hg _ wg_270) (fun _ h9 => h9) rfl d_M_make_104 ?_
              refine lv_aload_n hx hb d_M_make_107 rfl (lv_at hl 3 rfl) ?_
              refine va_get (D := (dC, dI)) (ci := 2) (v := .int am) (C := R_M) (T := F_M) (N := 11) hx hb hg in_M hown hK hP 0 rfl rfl 1 (by decide) (hg _ wg_267) (fun _ h9 => h9) rfl d_M_make_108 ?_
              refine lv_iload hx hb d_M_make_111 (lv_at hl 6 rfl) ?_
              refine va_iast hx hb hK hP hD hS 3 1 rfl rfl (in_ne ha0 ha c_9) d_M_make_113 (fun H locs hP hD hS => ?_)
              have hP : va_P (dC, dI) classes [(g, .inr (2, [.int cd, .int am, .ref m1, .ref m2, .ref m3, .ref m4, .ref m5, .ref m6, .ref m7, .int wc, .ref m8])), (m1, .inl (cJ, 500, .inr (.inl (vp_updL up am.toNatClampNeg v_3)))), (m2, .inl (cJ, 500, .inr (.inl (vp_updL dn am.toNatClampNeg v_5)))), (m3, .inl (cI, 500, .inl (upd mu am.toNatClampNeg z)))] H := hP
              have hD : va_D A [(g, .inr (2, [.int cd, .int am, .ref m1, .ref m2, .ref m3, .ref m4, .ref m5, .ref m6, .ref m7, .int wc, .ref m8])), (m1, .inl (cJ, 500, .inr (.inl (vp_updL up am.toNatClampNeg v_3)))), (m2, .inl (cJ, 500, .inr (.inl (vp_updL dn am.toNatClampNeg v_5)))), (m3, .inl (cI, 500, .inl (upd mu am.toNatClampNeg z)))] := hD
              refine lv_aload_n hx hb d_M_make_114 rfl (lv_at hl 3 rfl) ?_
              refine lv_dup hx hb d_M_make_115 rfl ?_
              refine va_get (D := (dC, dI)) (ci := 2) (v := .int am) (C := R_M) (T := F_M) (N := 11) hx hb hg in_M hown hK hP 0 rfl rfl 1 (by decide) (hg _ wg_267) (fun _ h9 => h9) rfl d_M_make_116 ?_
              refine lv_iconst (v := 1) hx hb d_M_make_119 (by decide) ?_
              refine lv_iadd hx hb d_M_make_120 ?_
              refine lv_topi (fun v_10 ev_10 => ?_)
              refine va_put (D := (dC, dI)) (ci := 2) (v := .int v_10) (ty := .int) (C := R_M) (T := F_M) (N := 11) hx hb hg in_M tt_M tt_M_ok nn_M hown hK hP hD hS 0 rfl rfl 1 (by decide) (hg _ wg_267) (fun _ h9 => h9) rfl (by decide +kernel) rfl rfl (Nat.le_of_ble_eq_true rfl) d_M_make_121 (fun H locs hP hD hS => ?_)
              have hP : va_P (dC, dI) classes [(g, .inr (2, [.int cd, .int v_10, .ref m1, .ref m2, .ref m3, .ref m4, .ref m5, .ref m6, .ref m7, .int wc, .ref m8])), (m1, .inl (cJ, 500, .inr (.inl (vp_updL up am.toNatClampNeg v_3)))), (m2, .inl (cJ, 500, .inr (.inl (vp_updL dn am.toNatClampNeg v_5)))), (m3, .inl (cI, 500, .inl (upd mu am.toNatClampNeg z)))] H := hP
              have hD : va_D A [(g, .inr (2, [.int cd, .int v_10, .ref m1, .ref m2, .ref m3, .ref m4, .ref m5, .ref m6, .ref m7, .int wc, .ref m8])), (m1, .inl (cJ, 500, .inr (.inl (vp_updL up am.toNatClampNeg v_3)))), (m2, .inl (cJ, 500, .inr (.inl (vp_updL dn am.toNatClampNeg v_5)))), (m3, .inl (cI, 500, .inl (upd mu am.toNatClampNeg z)))] := hD
              refine lv_aload_n hx hb d_M_make_124 rfl (lv_at hl 3 rfl) ?_
              refine va_get (D := (dC, dI)) (ci := 2) (v := .int v_10) (C := R_M) (T := F_M) (N := 11) hx hb hg in_M hown hK hP 0 rfl rfl 1 (by decide) (hg _ wg_267) (fun _ h9 => h9) rfl d_M_make_125 ?_
              refine lv_iconst (v := 1) hx hb d_M_make_128 (by decide) ?_
              refine lv_isub hx hb d_M_make_129 ?_
              subst ev_10
              subst ev_5
              subst ev_3
              subst ev_1
              have hP9 := hP.sub (ws' := [(g, .inr (2, [.int cd, .int (am + 1), .ref m1, .ref m2, .ref m3, .ref m4, .ref m5, .ref m6, .ref m7, .int wc, .ref m8])), (m1, .inl (cJ, 500, .inr (.inl (vp_updL up am.toNatClampNeg (x / (f_M_common x y)))))), (m2, .inl (cJ, 500, .inr (.inl (vp_updL dn am.toNatClampNeg (y / (f_M_common x y)))))), (m3, .inl (cI, 500, .inl (upd mu am.toNatClampNeg z)))]) [0, 1, 2, 3] rfl
              have hD9 := hD.sub (ws' := [(g, .inr (2, [.int cd, .int (am + 1), .ref m1, .ref m2, .ref m3, .ref m4, .ref m5, .ref m6, .ref m7, .int wc, .ref m8])), (m1, .inl (cJ, 500, .inr (.inl (vp_updL up am.toNatClampNeg (x / (f_M_common x y)))))), (m2, .inl (cJ, 500, .inr (.inl (vp_updL dn am.toNatClampNeg (y / (f_M_common x y)))))), (m3, .inl (cI, 500, .inl (upd mu am.toNatClampNeg z)))]) [0, 1, 2, 3] (by decide) rfl
              have hz : ((am + 1) - 1, (vp_updL up am.toNatClampNeg (x / (f_M_common x y)), vp_updL dn am.toNatClampNeg (y / (f_M_common x y)), upd mu am.toNatClampNeg z, (am + 1))) = f_M_make up dn mu am x y z := by unfold f_M_make; rw [if_pos c_2, if_pos c_4, if_neg c_6, if_neg c_7, if_neg c_8, if_neg c_9]
              exact W.iret (v := (am + 1) - 1) hx hb hr (fun t ht hW => ⟨⟨(am + 1) - 1, (vp_updL up am.toNatClampNeg (x / (f_M_common x y)), vp_updL dn am.toNatClampNeg (y / (f_M_common x y)), upd mu am.toNatClampNeg z, (am + 1)), rfl, hz, wb_of ht hW hP9 hK hD9⟩, hS.F ht⟩) hS.2.2 d_M_make_130
            · skip
              refine lv_bipush (v := (-2)) hx hb d_M_make_78 (by decide) ?_
              subst ev_5
              subst ev_3
              subst ev_1
              have hP9 := hP.sub (ws' := [(g, .inr (2, [.int cd, .int am, .ref m1, .ref m2, .ref m3, .ref m4, .ref m5, .ref m6, .ref m7, .int wc, .ref m8])), (m1, .inl (cJ, 500, .inr (.inl up))), (m2, .inl (cJ, 500, .inr (.inl dn))), (m3, .inl (cI, 500, .inl mu))]) [0, 1, 2, 3] rfl
              have hD9 := hD.sub (ws' := [(g, .inr (2, [.int cd, .int am, .ref m1, .ref m2, .ref m3, .ref m4, .ref m5, .ref m6, .ref m7, .int wc, .ref m8])), (m1, .inl (cJ, 500, .inr (.inl up))), (m2, .inl (cJ, 500, .inr (.inl dn))), (m3, .inl (cI, 500, .inl mu))]) [0, 1, 2, 3] (by decide) rfl
              have hz : ((-2), (up, dn, mu, am)) = f_M_make up dn mu am x y z := by unfold f_M_make; rw [if_pos c_2, if_pos c_4, if_neg c_6, if_neg c_7, if_neg c_8, if_pos c_9]
              exact W.iret (v := (-2)) hx hb hr (fun t ht hW => ⟨⟨(-2), (up, dn, mu, am), rfl, hz, wb_of ht hW hP9 hK hD9⟩, hS.F ht⟩) hS.2.2 d_M_make_80
    · skip
      rw [lg_cmp_ge] at c_4
      refine lv_lload_n hx hb d_M_make_30 rfl (lv_at hl 4 rfl) ?_
      refine lv_lneg hx hb d_M_make_31 ?_
      refine lv_goto (tgt := 36) hx hb d_M_make_32 (by decide) ?_
      refine lv_lload hx hb d_M_make_36 (lv_at hl 1 rfl) ?_
      refine lv_ldiv hx hb d_M_make_38 (by rw [ev_1]; exact nz_g hy) ?_
      refine lv_topl (fun v_11 ev_11 => ?_)
      refine lv_lstore (lv' := [(10, .long v_11), (8, .long v_3), (6, .long v_1), (0, .ref g), (1, .long x), (3, .long y), (5, .int z)]) hx hb d_M_make_39 hl (by decide) rfl (fun ls hl => ?_)
      refine lv_lload hx hb d_M_make_41 (lv_at hl 1 rfl) ?_
      refine lv_ldc2 (v := 2147483647) hx hb hown (hg _ wg_304) d_M_make_43 ?_
      refine W.lcmp hx hb d_M_make_46 ?_
      refine lv_if_gt (tgt := 78) hx hb d_M_make_47 (by decide) (fun c_12 => ?_) (fun c_12 => ?_)
      · skip
        rw [lg_cmp_gt] at c_12
        refine lv_bipush (v := (-2)) hx hb d_M_make_78 (by decide) ?_
        subst ev_11
        subst ev_3
        subst ev_1
        have hP9 := hP.sub (ws' := [(g, .inr (2, [.int cd, .int am, .ref m1, .ref m2, .ref m3, .ref m4, .ref m5, .ref m6, .ref m7, .int wc, .ref m8])), (m1, .inl (cJ, 500, .inr (.inl up))), (m2, .inl (cJ, 500, .inr (.inl dn))), (m3, .inl (cI, 500, .inl mu))]) [0, 1, 2, 3] rfl
        have hD9 := hD.sub (ws' := [(g, .inr (2, [.int cd, .int am, .ref m1, .ref m2, .ref m3, .ref m4, .ref m5, .ref m6, .ref m7, .int wc, .ref m8])), (m1, .inl (cJ, 500, .inr (.inl up))), (m2, .inl (cJ, 500, .inr (.inl dn))), (m3, .inl (cI, 500, .inl mu))]) [0, 1, 2, 3] (by decide) rfl
        have hz : ((-2), (up, dn, mu, am)) = f_M_make up dn mu am x y z := by unfold f_M_make; rw [if_pos c_2, if_neg c_4, if_pos c_12]
        exact W.iret (v := (-2)) hx hb hr (fun t ht hW => ⟨⟨(-2), (up, dn, mu, am), rfl, hz, wb_of ht hW hP9 hK hD9⟩, hS.F ht⟩) hS.2.2 d_M_make_80
      · skip
        rw [lg_cmp_gt] at c_12
        refine lv_lload hx hb d_M_make_50 (lv_at hl 1 rfl) ?_
        refine lv_ldc2 (v := (-2147483647)) hx hb hown (hg _ wg_305) d_M_make_52 ?_
        refine W.lcmp hx hb d_M_make_55 ?_
        refine lv_if_lt (tgt := 78) hx hb d_M_make_56 (by decide) (fun c_13 => ?_) (fun c_13 => ?_)
        · skip
          rw [lg_cmp_lt] at c_13
          refine lv_bipush (v := (-2)) hx hb d_M_make_78 (by decide) ?_
          subst ev_11
          subst ev_3
          subst ev_1
          have hP9 := hP.sub (ws' := [(g, .inr (2, [.int cd, .int am, .ref m1, .ref m2, .ref m3, .ref m4, .ref m5, .ref m6, .ref m7, .int wc, .ref m8])), (m1, .inl (cJ, 500, .inr (.inl up))), (m2, .inl (cJ, 500, .inr (.inl dn))), (m3, .inl (cI, 500, .inl mu))]) [0, 1, 2, 3] rfl
          have hD9 := hD.sub (ws' := [(g, .inr (2, [.int cd, .int am, .ref m1, .ref m2, .ref m3, .ref m4, .ref m5, .ref m6, .ref m7, .int wc, .ref m8])), (m1, .inl (cJ, 500, .inr (.inl up))), (m2, .inl (cJ, 500, .inr (.inl dn))), (m3, .inl (cI, 500, .inl mu))]) [0, 1, 2, 3] (by decide) rfl
          have hz : ((-2), (up, dn, mu, am)) = f_M_make up dn mu am x y z := by unfold f_M_make; rw [if_pos c_2, if_neg c_4, if_neg c_12, if_pos c_13]
          exact W.iret (v := (-2)) hx hb hr (fun t ht hW => ⟨⟨(-2), (up, dn, mu, am), rfl, hz, wb_of ht hW hP9 hK hD9⟩, hS.F ht⟩) hS.2.2 d_M_make_80
        · skip
          rw [lg_cmp_lt] at c_13
          refine lv_lload hx hb d_M_make_59 (lv_at hl 0 rfl) ?_
          refine lv_ldc2 (v := 2147483647) hx hb hown (hg _ wg_304) d_M_make_61 ?_
          refine W.lcmp hx hb d_M_make_64 ?_
          refine lv_if_gt (tgt := 78) hx hb d_M_make_65 (by decide) (fun c_14 => ?_) (fun c_14 => ?_)
          · skip
            rw [lg_cmp_gt] at c_14
            refine lv_bipush (v := (-2)) hx hb d_M_make_78 (by decide) ?_
            subst ev_11
            subst ev_3
            subst ev_1
            have hP9 := hP.sub (ws' := [(g, .inr (2, [.int cd, .int am, .ref m1, .ref m2, .ref m3, .ref m4, .ref m5, .ref m6, .ref m7, .int wc, .ref m8])), (m1, .inl (cJ, 500, .inr (.inl up))), (m2, .inl (cJ, 500, .inr (.inl dn))), (m3, .inl (cI, 500, .inl mu))]) [0, 1, 2, 3] rfl
            have hD9 := hD.sub (ws' := [(g, .inr (2, [.int cd, .int am, .ref m1, .ref m2, .ref m3, .ref m4, .ref m5, .ref m6, .ref m7, .int wc, .ref m8])), (m1, .inl (cJ, 500, .inr (.inl up))), (m2, .inl (cJ, 500, .inr (.inl dn))), (m3, .inl (cI, 500, .inl mu))]) [0, 1, 2, 3] (by decide) rfl
            have hz : ((-2), (up, dn, mu, am)) = f_M_make up dn mu am x y z := by unfold f_M_make; rw [if_pos c_2, if_neg c_4, if_neg c_12, if_neg c_13, if_pos c_14]
            exact W.iret (v := (-2)) hx hb hr (fun t ht hW => ⟨⟨(-2), (up, dn, mu, am), rfl, hz, wb_of ht hW hP9 hK hD9⟩, hS.F ht⟩) hS.2.2 d_M_make_80
          · skip
            rw [lg_cmp_gt] at c_14
            refine lv_aload_n hx hb d_M_make_68 rfl (lv_at hl 3 rfl) ?_
            refine va_get (D := (dC, dI)) (ci := 2) (v := .int am) (C := R_M) (T := F_M) (N := 11) hx hb hg in_M hown hK hP 0 rfl rfl 1 (by decide) (hg _ wg_267) (fun _ h9 => h9) rfl d_M_make_69 ?_
            refine lv_sipush (v := 500) hx hb d_M_make_72 (by decide) ?_
            refine lv_icmp_ne (tgt := 81) hx hb d_M_make_75 (by decide) (fun c_15 => ?_) (fun c_15 => ?_)
            · skip
              refine lv_aload_n hx hb d_M_make_81 rfl (lv_at hl 3 rfl) ?_
              refine va_get (D := (dC, dI)) (ci := 2) (v := .ref m1) (C := R_M) (T := F_M) (N := 11) hx hb hg in_M hown hK hP 0 rfl rfl 2 (by decide) (hg _ wg_268) (fun _ h9 => h9) rfl d_M_make_82 ?_
              refine lv_aload_n hx hb d_M_make_85 rfl (lv_at hl 3 rfl) ?_
              refine va_get (D := (dC, dI)) (ci := 2) (v := .int am) (C := R_M) (T := F_M) (N := 11) hx hb hg in_M hown hK hP 0 rfl rfl 1 (by decide) (hg _ wg_267) (fun _ h9 => h9) rfl d_M_make_86 ?_
              refine lv_lload hx hb d_M_make_89 (lv_at hl 1 rfl) ?_
              refine va_last hx hb hK hP hD hS 1 0 rfl rfl (in_ne ha0 ha c_15) d_M_make_91 (fun H locs hP hD hS => ?_)
              have hP : va_P (dC, dI) classes [(g, .inr (2, [.int cd, .int am, .ref m1, .ref m2, .ref m3, .ref m4, .ref m5, .ref m6, .ref m7, .int wc, .ref m8])), (m1, .inl (cJ, 500, .inr (.inl (vp_updL up am.toNatClampNeg v_3)))), (m2, .inl (cJ, 500, .inr (.inl dn))), (m3, .inl (cI, 500, .inl mu))] H := hP
              have hD : va_D A [(g, .inr (2, [.int cd, .int am, .ref m1, .ref m2, .ref m3, .ref m4, .ref m5, .ref m6, .ref m7, .int wc, .ref m8])), (m1, .inl (cJ, 500, .inr (.inl (vp_updL up am.toNatClampNeg v_3)))), (m2, .inl (cJ, 500, .inr (.inl dn))), (m3, .inl (cI, 500, .inl mu))] := hD
              refine lv_aload_n hx hb d_M_make_92 rfl (lv_at hl 3 rfl) ?_
              refine va_get (D := (dC, dI)) (ci := 2) (v := .ref m2) (C := R_M) (T := F_M) (N := 11) hx hb hg in_M hown hK hP 0 rfl rfl 3 (by decide) (hg _ wg_269) (fun _ h9 => h9) rfl d_M_make_93 ?_
              refine lv_aload_n hx hb d_M_make_96 rfl (lv_at hl 3 rfl) ?_
              refine va_get (D := (dC, dI)) (ci := 2) (v := .int am) (C := R_M) (T := F_M) (N := 11) hx hb hg in_M hown hK hP 0 rfl rfl 1 (by decide) (hg _ wg_267) (fun _ h9 => h9) rfl d_M_make_97 ?_
              refine lv_lload hx hb d_M_make_100 (lv_at hl 0 rfl) ?_
              refine va_last hx hb hK hP hD hS 2 0 rfl rfl (in_ne ha0 ha c_15) d_M_make_102 (fun H locs hP hD hS => ?_)
              have hP : va_P (dC, dI) classes [(g, .inr (2, [.int cd, .int am, .ref m1, .ref m2, .ref m3, .ref m4, .ref m5, .ref m6, .ref m7, .int wc, .ref m8])), (m1, .inl (cJ, 500, .inr (.inl (vp_updL up am.toNatClampNeg v_3)))), (m2, .inl (cJ, 500, .inr (.inl (vp_updL dn am.toNatClampNeg v_11)))), (m3, .inl (cI, 500, .inl mu))] H := hP
              have hD : va_D A [(g, .inr (2, [.int cd, .int am, .ref m1, .ref m2, .ref m3, .ref m4, .ref m5, .ref m6, .ref m7, .int wc, .ref m8])), (m1, .inl (cJ, 500, .inr (.inl (vp_updL up am.toNatClampNeg v_3)))), (m2, .inl (cJ, 500, .inr (.inl (vp_updL dn am.toNatClampNeg v_11)))), (m3, .inl (cI, 500, .inl mu))] := hD
              refine lv_aload_n hx hb d_M_make_103 rfl (lv_at hl 3 rfl) ?_
              refine va_get (D := (dC, dI)) (ci := 2) (v := .ref m3) (C := R_M) (T := F_M) (N := 11) hx hb hg in_M hown hK hP 0 rfl rfl 4 (by decide) (hg _ wg_270) (fun _ h9 => h9) rfl d_M_make_104 ?_
              refine lv_aload_n hx hb d_M_make_107 rfl (lv_at hl 3 rfl) ?_
              refine va_get (D := (dC, dI)) (ci := 2) (v := .int am) (C := R_M) (T := F_M) (N := 11) hx hb hg in_M hown hK hP 0 rfl rfl 1 (by decide) (hg _ wg_267) (fun _ h9 => h9) rfl d_M_make_108 ?_
              refine lv_iload hx hb d_M_make_111 (lv_at hl 6 rfl) ?_
              refine va_iast hx hb hK hP hD hS 3 1 rfl rfl (in_ne ha0 ha c_15) d_M_make_113 (fun H locs hP hD hS => ?_)
              have hP : va_P (dC, dI) classes [(g, .inr (2, [.int cd, .int am, .ref m1, .ref m2, .ref m3, .ref m4, .ref m5, .ref m6, .ref m7, .int wc, .ref m8])), (m1, .inl (cJ, 500, .inr (.inl (vp_updL up am.toNatClampNeg v_3)))), (m2, .inl (cJ, 500, .inr (.inl (vp_updL dn am.toNatClampNeg v_11)))), (m3, .inl (cI, 500, .inl (upd mu am.toNatClampNeg z)))] H := hP
              have hD : va_D A [(g, .inr (2, [.int cd, .int am, .ref m1, .ref m2, .ref m3, .ref m4, .ref m5, .ref m6, .ref m7, .int wc, .ref m8])), (m1, .inl (cJ, 500, .inr (.inl (vp_updL up am.toNatClampNeg v_3)))), (m2, .inl (cJ, 500, .inr (.inl (vp_updL dn am.toNatClampNeg v_11)))), (m3, .inl (cI, 500, .inl (upd mu am.toNatClampNeg z)))] := hD
              refine lv_aload_n hx hb d_M_make_114 rfl (lv_at hl 3 rfl) ?_
              refine lv_dup hx hb d_M_make_115 rfl ?_
              refine va_get (D := (dC, dI)) (ci := 2) (v := .int am) (C := R_M) (T := F_M) (N := 11) hx hb hg in_M hown hK hP 0 rfl rfl 1 (by decide) (hg _ wg_267) (fun _ h9 => h9) rfl d_M_make_116 ?_
              refine lv_iconst (v := 1) hx hb d_M_make_119 (by decide) ?_
              refine lv_iadd hx hb d_M_make_120 ?_
              refine lv_topi (fun v_16 ev_16 => ?_)
              refine va_put (D := (dC, dI)) (ci := 2) (v := .int v_16) (ty := .int) (C := R_M) (T := F_M) (N := 11) hx hb hg in_M tt_M tt_M_ok nn_M hown hK hP hD hS 0 rfl rfl 1 (by decide) (hg _ wg_267) (fun _ h9 => h9) rfl (by decide +kernel) rfl rfl (Nat.le_of_ble_eq_true rfl) d_M_make_121 (fun H locs hP hD hS => ?_)
              have hP : va_P (dC, dI) classes [(g, .inr (2, [.int cd, .int v_16, .ref m1, .ref m2, .ref m3, .ref m4, .ref m5, .ref m6, .ref m7, .int wc, .ref m8])), (m1, .inl (cJ, 500, .inr (.inl (vp_updL up am.toNatClampNeg v_3)))), (m2, .inl (cJ, 500, .inr (.inl (vp_updL dn am.toNatClampNeg v_11)))), (m3, .inl (cI, 500, .inl (upd mu am.toNatClampNeg z)))] H := hP
              have hD : va_D A [(g, .inr (2, [.int cd, .int v_16, .ref m1, .ref m2, .ref m3, .ref m4, .ref m5, .ref m6, .ref m7, .int wc, .ref m8])), (m1, .inl (cJ, 500, .inr (.inl (vp_updL up am.toNatClampNeg v_3)))), (m2, .inl (cJ, 500, .inr (.inl (vp_updL dn am.toNatClampNeg v_11)))), (m3, .inl (cI, 500, .inl (upd mu am.toNatClampNeg z)))] := hD
              refine lv_aload_n hx hb d_M_make_124 rfl (lv_at hl 3 rfl) ?_
              refine va_get (D := (dC, dI)) (ci := 2) (v := .int v_16) (C := R_M) (T := F_M) (N := 11) hx hb hg in_M hown hK hP 0 rfl rfl 1 (by decide) (hg _ wg_267) (fun _ h9 => h9) rfl d_M_make_125 ?_
              refine lv_iconst (v := 1) hx hb d_M_make_128 (by decide) ?_
              refine lv_isub hx hb d_M_make_129 ?_
              subst ev_16
              subst ev_11
              subst ev_3
              subst ev_1
              have hP9 := hP.sub (ws' := [(g, .inr (2, [.int cd, .int (am + 1), .ref m1, .ref m2, .ref m3, .ref m4, .ref m5, .ref m6, .ref m7, .int wc, .ref m8])), (m1, .inl (cJ, 500, .inr (.inl (vp_updL up am.toNatClampNeg (x / (f_M_common x y)))))), (m2, .inl (cJ, 500, .inr (.inl (vp_updL dn am.toNatClampNeg ((-y) / (f_M_common x y)))))), (m3, .inl (cI, 500, .inl (upd mu am.toNatClampNeg z)))]) [0, 1, 2, 3] rfl
              have hD9 := hD.sub (ws' := [(g, .inr (2, [.int cd, .int (am + 1), .ref m1, .ref m2, .ref m3, .ref m4, .ref m5, .ref m6, .ref m7, .int wc, .ref m8])), (m1, .inl (cJ, 500, .inr (.inl (vp_updL up am.toNatClampNeg (x / (f_M_common x y)))))), (m2, .inl (cJ, 500, .inr (.inl (vp_updL dn am.toNatClampNeg ((-y) / (f_M_common x y)))))), (m3, .inl (cI, 500, .inl (upd mu am.toNatClampNeg z)))]) [0, 1, 2, 3] (by decide) rfl
              have hz : ((am + 1) - 1, (vp_updL up am.toNatClampNeg (x / (f_M_common x y)), vp_updL dn am.toNatClampNeg ((-y) / (f_M_common x y)), upd mu am.toNatClampNeg z, (am + 1))) = f_M_make up dn mu am x y z := by unfold f_M_make; rw [if_pos c_2, if_neg c_4, if_neg c_12, if_neg c_13, if_neg c_14, if_neg c_15]
              exact W.iret (v := (am + 1) - 1) hx hb hr (fun t ht hW => ⟨⟨(am + 1) - 1, (vp_updL up am.toNatClampNeg (x / (f_M_common x y)), vp_updL dn am.toNatClampNeg ((-y) / (f_M_common x y)), upd mu am.toNatClampNeg z, (am + 1)), rfl, hz, wb_of ht hW hP9 hK hD9⟩, hS.F ht⟩) hS.2.2 d_M_make_130
            · skip
              refine lv_bipush (v := (-2)) hx hb d_M_make_78 (by decide) ?_
              subst ev_11
              subst ev_3
              subst ev_1
              have hP9 := hP.sub (ws' := [(g, .inr (2, [.int cd, .int am, .ref m1, .ref m2, .ref m3, .ref m4, .ref m5, .ref m6, .ref m7, .int wc, .ref m8])), (m1, .inl (cJ, 500, .inr (.inl up))), (m2, .inl (cJ, 500, .inr (.inl dn))), (m3, .inl (cI, 500, .inl mu))]) [0, 1, 2, 3] rfl
              have hD9 := hD.sub (ws' := [(g, .inr (2, [.int cd, .int am, .ref m1, .ref m2, .ref m3, .ref m4, .ref m5, .ref m6, .ref m7, .int wc, .ref m8])), (m1, .inl (cJ, 500, .inr (.inl up))), (m2, .inl (cJ, 500, .inr (.inl dn))), (m3, .inl (cI, 500, .inl mu))]) [0, 1, 2, 3] (by decide) rfl
              have hz : ((-2), (up, dn, mu, am)) = f_M_make up dn mu am x y z := by unfold f_M_make; rw [if_pos c_2, if_neg c_4, if_neg c_12, if_neg c_13, if_neg c_14, if_pos c_15]
              exact W.iret (v := (-2)) hx hb hr (fun t ht hW => ⟨⟨(-2), (up, dn, mu, am), rfl, hz, wb_of ht hW hP9 hK hD9⟩, hS.F ht⟩) hS.2.2 d_M_make_80
  · skip
    rw [lg_cmp_ge] at c_2
    refine lv_lload_n hx hb d_M_make_13 rfl (lv_at hl 2 rfl) ?_
    refine lv_lneg hx hb d_M_make_14 ?_
    refine lv_goto (tgt := 19) hx hb d_M_make_15 (by decide) ?_
    refine lv_lload hx hb d_M_make_19 (lv_at hl 0 rfl) ?_
    refine lv_ldiv hx hb d_M_make_21 (by rw [ev_1]; exact nz_g hy) ?_
    refine lv_topl (fun v_17 ev_17 => ?_)
    refine lv_lstore (lv' := [(8, .long v_17), (6, .long v_1), (0, .ref g), (1, .long x), (3, .long y), (5, .int z)]) hx hb d_M_make_22 hl (by decide) rfl (fun ls hl => ?_)
    refine lv_lload_n hx hb d_M_make_24 rfl (lv_at hl 4 rfl) ?_
    refine lv_lconst (v := 0) hx hb d_M_make_25 (by decide) ?_
    refine W.lcmp hx hb d_M_make_26 ?_
    refine lv_if_ge (tgt := 35) hx hb d_M_make_27 (by decide) (fun c_18 => ?_) (fun c_18 => ?_)
    · skip
      rw [lg_cmp_ge] at c_18
      refine lv_lload_n hx hb d_M_make_35 rfl (lv_at hl 4 rfl) ?_
      refine lv_lload hx hb d_M_make_36 (lv_at hl 1 rfl) ?_
      refine lv_ldiv hx hb d_M_make_38 (by rw [ev_1]; exact nz_g hy) ?_
      refine lv_topl (fun v_19 ev_19 => ?_)
      refine lv_lstore (lv' := [(10, .long v_19), (8, .long v_17), (6, .long v_1), (0, .ref g), (1, .long x), (3, .long y), (5, .int z)]) hx hb d_M_make_39 hl (by decide) rfl (fun ls hl => ?_)
      refine lv_lload hx hb d_M_make_41 (lv_at hl 1 rfl) ?_
      refine lv_ldc2 (v := 2147483647) hx hb hown (hg _ wg_304) d_M_make_43 ?_
      refine W.lcmp hx hb d_M_make_46 ?_
      refine lv_if_gt (tgt := 78) hx hb d_M_make_47 (by decide) (fun c_20 => ?_) (fun c_20 => ?_)
      · skip
        rw [lg_cmp_gt] at c_20
        refine lv_bipush (v := (-2)) hx hb d_M_make_78 (by decide) ?_
        subst ev_19
        subst ev_17
        subst ev_1
        have hP9 := hP.sub (ws' := [(g, .inr (2, [.int cd, .int am, .ref m1, .ref m2, .ref m3, .ref m4, .ref m5, .ref m6, .ref m7, .int wc, .ref m8])), (m1, .inl (cJ, 500, .inr (.inl up))), (m2, .inl (cJ, 500, .inr (.inl dn))), (m3, .inl (cI, 500, .inl mu))]) [0, 1, 2, 3] rfl
        have hD9 := hD.sub (ws' := [(g, .inr (2, [.int cd, .int am, .ref m1, .ref m2, .ref m3, .ref m4, .ref m5, .ref m6, .ref m7, .int wc, .ref m8])), (m1, .inl (cJ, 500, .inr (.inl up))), (m2, .inl (cJ, 500, .inr (.inl dn))), (m3, .inl (cI, 500, .inl mu))]) [0, 1, 2, 3] (by decide) rfl
        have hz : ((-2), (up, dn, mu, am)) = f_M_make up dn mu am x y z := by unfold f_M_make; rw [if_neg c_2, if_pos c_18, if_pos c_20]
        exact W.iret (v := (-2)) hx hb hr (fun t ht hW => ⟨⟨(-2), (up, dn, mu, am), rfl, hz, wb_of ht hW hP9 hK hD9⟩, hS.F ht⟩) hS.2.2 d_M_make_80
      · skip
        rw [lg_cmp_gt] at c_20
        refine lv_lload hx hb d_M_make_50 (lv_at hl 1 rfl) ?_
        refine lv_ldc2 (v := (-2147483647)) hx hb hown (hg _ wg_305) d_M_make_52 ?_
        refine W.lcmp hx hb d_M_make_55 ?_
        refine lv_if_lt (tgt := 78) hx hb d_M_make_56 (by decide) (fun c_21 => ?_) (fun c_21 => ?_)
        · skip
          rw [lg_cmp_lt] at c_21
          refine lv_bipush (v := (-2)) hx hb d_M_make_78 (by decide) ?_
          subst ev_19
          subst ev_17
          subst ev_1
          have hP9 := hP.sub (ws' := [(g, .inr (2, [.int cd, .int am, .ref m1, .ref m2, .ref m3, .ref m4, .ref m5, .ref m6, .ref m7, .int wc, .ref m8])), (m1, .inl (cJ, 500, .inr (.inl up))), (m2, .inl (cJ, 500, .inr (.inl dn))), (m3, .inl (cI, 500, .inl mu))]) [0, 1, 2, 3] rfl
          have hD9 := hD.sub (ws' := [(g, .inr (2, [.int cd, .int am, .ref m1, .ref m2, .ref m3, .ref m4, .ref m5, .ref m6, .ref m7, .int wc, .ref m8])), (m1, .inl (cJ, 500, .inr (.inl up))), (m2, .inl (cJ, 500, .inr (.inl dn))), (m3, .inl (cI, 500, .inl mu))]) [0, 1, 2, 3] (by decide) rfl
          have hz : ((-2), (up, dn, mu, am)) = f_M_make up dn mu am x y z := by unfold f_M_make; rw [if_neg c_2, if_pos c_18, if_neg c_20, if_pos c_21]
          exact W.iret (v := (-2)) hx hb hr (fun t ht hW => ⟨⟨(-2), (up, dn, mu, am), rfl, hz, wb_of ht hW hP9 hK hD9⟩, hS.F ht⟩) hS.2.2 d_M_make_80
        · skip
          rw [lg_cmp_lt] at c_21
          refine lv_lload hx hb d_M_make_59 (lv_at hl 0 rfl) ?_
          refine lv_ldc2 (v := 2147483647) hx hb hown (hg _ wg_304) d_M_make_61 ?_
          refine W.lcmp hx hb d_M_make_64 ?_
          refine lv_if_gt (tgt := 78) hx hb d_M_make_65 (by decide) (fun c_22 => ?_) (fun c_22 => ?_)
          · skip
            rw [lg_cmp_gt] at c_22
            refine lv_bipush (v := (-2)) hx hb d_M_make_78 (by decide) ?_
            subst ev_19
            subst ev_17
            subst ev_1
            have hP9 := hP.sub (ws' := [(g, .inr (2, [.int cd, .int am, .ref m1, .ref m2, .ref m3, .ref m4, .ref m5, .ref m6, .ref m7, .int wc, .ref m8])), (m1, .inl (cJ, 500, .inr (.inl up))), (m2, .inl (cJ, 500, .inr (.inl dn))), (m3, .inl (cI, 500, .inl mu))]) [0, 1, 2, 3] rfl
            have hD9 := hD.sub (ws' := [(g, .inr (2, [.int cd, .int am, .ref m1, .ref m2, .ref m3, .ref m4, .ref m5, .ref m6, .ref m7, .int wc, .ref m8])), (m1, .inl (cJ, 500, .inr (.inl up))), (m2, .inl (cJ, 500, .inr (.inl dn))), (m3, .inl (cI, 500, .inl mu))]) [0, 1, 2, 3] (by decide) rfl
            have hz : ((-2), (up, dn, mu, am)) = f_M_make up dn mu am x y z := by unfold f_M_make; rw [if_neg c_2, if_pos c_18, if_neg c_20, if_neg c_21, if_pos c_22]
            exact W.iret (v := (-2)) hx hb hr (fun t ht hW => ⟨⟨(-2), (up, dn, mu, am), rfl, hz, wb_of ht hW hP9 hK hD9⟩, hS.F ht⟩) hS.2.2 d_M_make_80
          · skip
            rw [lg_cmp_gt] at c_22
            refine lv_aload_n hx hb d_M_make_68 rfl (lv_at hl 3 rfl) ?_
            refine va_get (D := (dC, dI)) (ci := 2) (v := .int am) (C := R_M) (T := F_M) (N := 11) hx hb hg in_M hown hK hP 0 rfl rfl 1 (by decide) (hg _ wg_267) (fun _ h9 => h9) rfl d_M_make_69 ?_
            refine lv_sipush (v := 500) hx hb d_M_make_72 (by decide) ?_
            refine lv_icmp_ne (tgt := 81) hx hb d_M_make_75 (by decide) (fun c_23 => ?_) (fun c_23 => ?_)
            · skip
              refine lv_aload_n hx hb d_M_make_81 rfl (lv_at hl 3 rfl) ?_
              refine va_get (D := (dC, dI)) (ci := 2) (v := .ref m1) (C := R_M) (T := F_M) (N := 11) hx hb hg in_M hown hK hP 0 rfl rfl 2 (by decide) (hg _ wg_268) (fun _ h9 => h9) rfl d_M_make_82 ?_
              refine lv_aload_n hx hb d_M_make_85 rfl (lv_at hl 3 rfl) ?_
              refine va_get (D := (dC, dI)) (ci := 2) (v := .int am) (C := R_M) (T := F_M) (N := 11) hx hb hg in_M hown hK hP 0 rfl rfl 1 (by decide) (hg _ wg_267) (fun _ h9 => h9) rfl d_M_make_86 ?_
              refine lv_lload hx hb d_M_make_89 (lv_at hl 1 rfl) ?_
              refine va_last hx hb hK hP hD hS 1 0 rfl rfl (in_ne ha0 ha c_23) d_M_make_91 (fun H locs hP hD hS => ?_)
              have hP : va_P (dC, dI) classes [(g, .inr (2, [.int cd, .int am, .ref m1, .ref m2, .ref m3, .ref m4, .ref m5, .ref m6, .ref m7, .int wc, .ref m8])), (m1, .inl (cJ, 500, .inr (.inl (vp_updL up am.toNatClampNeg v_17)))), (m2, .inl (cJ, 500, .inr (.inl dn))), (m3, .inl (cI, 500, .inl mu))] H := hP
              have hD : va_D A [(g, .inr (2, [.int cd, .int am, .ref m1, .ref m2, .ref m3, .ref m4, .ref m5, .ref m6, .ref m7, .int wc, .ref m8])), (m1, .inl (cJ, 500, .inr (.inl (vp_updL up am.toNatClampNeg v_17)))), (m2, .inl (cJ, 500, .inr (.inl dn))), (m3, .inl (cI, 500, .inl mu))] := hD
              refine lv_aload_n hx hb d_M_make_92 rfl (lv_at hl 3 rfl) ?_
              refine va_get (D := (dC, dI)) (ci := 2) (v := .ref m2) (C := R_M) (T := F_M) (N := 11) hx hb hg in_M hown hK hP 0 rfl rfl 3 (by decide) (hg _ wg_269) (fun _ h9 => h9) rfl d_M_make_93 ?_
              refine lv_aload_n hx hb d_M_make_96 rfl (lv_at hl 3 rfl) ?_
              refine va_get (D := (dC, dI)) (ci := 2) (v := .int am) (C := R_M) (T := F_M) (N := 11) hx hb hg in_M hown hK hP 0 rfl rfl 1 (by decide) (hg _ wg_267) (fun _ h9 => h9) rfl d_M_make_97 ?_
              refine lv_lload hx hb d_M_make_100 (lv_at hl 0 rfl) ?_
              refine va_last hx hb hK hP hD hS 2 0 rfl rfl (in_ne ha0 ha c_23) d_M_make_102 (fun H locs hP hD hS => ?_)
              have hP : va_P (dC, dI) classes [(g, .inr (2, [.int cd, .int am, .ref m1, .ref m2, .ref m3, .ref m4, .ref m5, .ref m6, .ref m7, .int wc, .ref m8])), (m1, .inl (cJ, 500, .inr (.inl (vp_updL up am.toNatClampNeg v_17)))), (m2, .inl (cJ, 500, .inr (.inl (vp_updL dn am.toNatClampNeg v_19)))), (m3, .inl (cI, 500, .inl mu))] H := hP
              have hD : va_D A [(g, .inr (2, [.int cd, .int am, .ref m1, .ref m2, .ref m3, .ref m4, .ref m5, .ref m6, .ref m7, .int wc, .ref m8])), (m1, .inl (cJ, 500, .inr (.inl (vp_updL up am.toNatClampNeg v_17)))), (m2, .inl (cJ, 500, .inr (.inl (vp_updL dn am.toNatClampNeg v_19)))), (m3, .inl (cI, 500, .inl mu))] := hD
              refine lv_aload_n hx hb d_M_make_103 rfl (lv_at hl 3 rfl) ?_
              refine va_get (D := (dC, dI)) (ci := 2) (v := .ref m3) (C := R_M) (T := F_M) (N := 11) hx hb hg in_M hown hK hP 0 rfl rfl 4 (by decide) (hg _ wg_270) (fun _ h9 => h9) rfl d_M_make_104 ?_
              refine lv_aload_n hx hb d_M_make_107 rfl (lv_at hl 3 rfl) ?_
              refine va_get (D := (dC, dI)) (ci := 2) (v := .int am) (C := R_M) (T := F_M) (N := 11) hx hb hg in_M hown hK hP 0 rfl rfl 1 (by decide) (hg _ wg_267) (fun _ h9 => h9) rfl d_M_make_108 ?_
              refine lv_iload hx hb d_M_make_111 (lv_at hl 6 rfl) ?_
              refine va_iast hx hb hK hP hD hS 3 1 rfl rfl (in_ne ha0 ha c_23) d_M_make_113 (fun H locs hP hD hS => ?_)
              have hP : va_P (dC, dI) classes [(g, .inr (2, [.int cd, .int am, .ref m1, .ref m2, .ref m3, .ref m4, .ref m5, .ref m6, .ref m7, .int wc, .ref m8])), (m1, .inl (cJ, 500, .inr (.inl (vp_updL up am.toNatClampNeg v_17)))), (m2, .inl (cJ, 500, .inr (.inl (vp_updL dn am.toNatClampNeg v_19)))), (m3, .inl (cI, 500, .inl (upd mu am.toNatClampNeg z)))] H := hP
              have hD : va_D A [(g, .inr (2, [.int cd, .int am, .ref m1, .ref m2, .ref m3, .ref m4, .ref m5, .ref m6, .ref m7, .int wc, .ref m8])), (m1, .inl (cJ, 500, .inr (.inl (vp_updL up am.toNatClampNeg v_17)))), (m2, .inl (cJ, 500, .inr (.inl (vp_updL dn am.toNatClampNeg v_19)))), (m3, .inl (cI, 500, .inl (upd mu am.toNatClampNeg z)))] := hD
              refine lv_aload_n hx hb d_M_make_114 rfl (lv_at hl 3 rfl) ?_
              refine lv_dup hx hb d_M_make_115 rfl ?_
              refine va_get (D := (dC, dI)) (ci := 2) (v := .int am) (C := R_M) (T := F_M) (N := 11) hx hb hg in_M hown hK hP 0 rfl rfl 1 (by decide) (hg _ wg_267) (fun _ h9 => h9) rfl d_M_make_116 ?_
              refine lv_iconst (v := 1) hx hb d_M_make_119 (by decide) ?_
              refine lv_iadd hx hb d_M_make_120 ?_
              refine lv_topi (fun v_24 ev_24 => ?_)
              refine va_put (D := (dC, dI)) (ci := 2) (v := .int v_24) (ty := .int) (C := R_M) (T := F_M) (N := 11) hx hb hg in_M tt_M tt_M_ok nn_M hown hK hP hD hS 0 rfl rfl 1 (by decide) (hg _ wg_267) (fun _ h9 => h9) rfl (by decide +kernel) rfl rfl (Nat.le_of_ble_eq_true rfl) d_M_make_121 (fun H locs hP hD hS => ?_)
              have hP : va_P (dC, dI) classes [(g, .inr (2, [.int cd, .int v_24, .ref m1, .ref m2, .ref m3, .ref m4, .ref m5, .ref m6, .ref m7, .int wc, .ref m8])), (m1, .inl (cJ, 500, .inr (.inl (vp_updL up am.toNatClampNeg v_17)))), (m2, .inl (cJ, 500, .inr (.inl (vp_updL dn am.toNatClampNeg v_19)))), (m3, .inl (cI, 500, .inl (upd mu am.toNatClampNeg z)))] H := hP
              have hD : va_D A [(g, .inr (2, [.int cd, .int v_24, .ref m1, .ref m2, .ref m3, .ref m4, .ref m5, .ref m6, .ref m7, .int wc, .ref m8])), (m1, .inl (cJ, 500, .inr (.inl (vp_updL up am.toNatClampNeg v_17)))), (m2, .inl (cJ, 500, .inr (.inl (vp_updL dn am.toNatClampNeg v_19)))), (m3, .inl (cI, 500, .inl (upd mu am.toNatClampNeg z)))] := hD
              refine lv_aload_n hx hb d_M_make_124 rfl (lv_at hl 3 rfl) ?_
              refine va_get (D := (dC, dI)) (ci := 2) (v := .int v_24) (C := R_M) (T := F_M) (N := 11) hx hb hg in_M hown hK hP 0 rfl rfl 1 (by decide) (hg _ wg_267) (fun _ h9 => h9) rfl d_M_make_125 ?_
              refine lv_iconst (v := 1) hx hb d_M_make_128 (by decide) ?_
              refine lv_isub hx hb d_M_make_129 ?_
              subst ev_24
              subst ev_19
              subst ev_17
              subst ev_1
              have hP9 := hP.sub (ws' := [(g, .inr (2, [.int cd, .int (am + 1), .ref m1, .ref m2, .ref m3, .ref m4, .ref m5, .ref m6, .ref m7, .int wc, .ref m8])), (m1, .inl (cJ, 500, .inr (.inl (vp_updL up am.toNatClampNeg ((-x) / (f_M_common x y)))))), (m2, .inl (cJ, 500, .inr (.inl (vp_updL dn am.toNatClampNeg (y / (f_M_common x y)))))), (m3, .inl (cI, 500, .inl (upd mu am.toNatClampNeg z)))]) [0, 1, 2, 3] rfl
              have hD9 := hD.sub (ws' := [(g, .inr (2, [.int cd, .int (am + 1), .ref m1, .ref m2, .ref m3, .ref m4, .ref m5, .ref m6, .ref m7, .int wc, .ref m8])), (m1, .inl (cJ, 500, .inr (.inl (vp_updL up am.toNatClampNeg ((-x) / (f_M_common x y)))))), (m2, .inl (cJ, 500, .inr (.inl (vp_updL dn am.toNatClampNeg (y / (f_M_common x y)))))), (m3, .inl (cI, 500, .inl (upd mu am.toNatClampNeg z)))]) [0, 1, 2, 3] (by decide) rfl
              have hz : ((am + 1) - 1, (vp_updL up am.toNatClampNeg ((-x) / (f_M_common x y)), vp_updL dn am.toNatClampNeg (y / (f_M_common x y)), upd mu am.toNatClampNeg z, (am + 1))) = f_M_make up dn mu am x y z := by unfold f_M_make; rw [if_neg c_2, if_pos c_18, if_neg c_20, if_neg c_21, if_neg c_22, if_neg c_23]
              exact W.iret (v := (am + 1) - 1) hx hb hr (fun t ht hW => ⟨⟨(am + 1) - 1, (vp_updL up am.toNatClampNeg ((-x) / (f_M_common x y)), vp_updL dn am.toNatClampNeg (y / (f_M_common x y)), upd mu am.toNatClampNeg z, (am + 1)), rfl, hz, wb_of ht hW hP9 hK hD9⟩, hS.F ht⟩) hS.2.2 d_M_make_130
            · skip
              refine lv_bipush (v := (-2)) hx hb d_M_make_78 (by decide) ?_
              subst ev_19
              subst ev_17
              subst ev_1
              have hP9 := hP.sub (ws' := [(g, .inr (2, [.int cd, .int am, .ref m1, .ref m2, .ref m3, .ref m4, .ref m5, .ref m6, .ref m7, .int wc, .ref m8])), (m1, .inl (cJ, 500, .inr (.inl up))), (m2, .inl (cJ, 500, .inr (.inl dn))), (m3, .inl (cI, 500, .inl mu))]) [0, 1, 2, 3] rfl
              have hD9 := hD.sub (ws' := [(g, .inr (2, [.int cd, .int am, .ref m1, .ref m2, .ref m3, .ref m4, .ref m5, .ref m6, .ref m7, .int wc, .ref m8])), (m1, .inl (cJ, 500, .inr (.inl up))), (m2, .inl (cJ, 500, .inr (.inl dn))), (m3, .inl (cI, 500, .inl mu))]) [0, 1, 2, 3] (by decide) rfl
              have hz : ((-2), (up, dn, mu, am)) = f_M_make up dn mu am x y z := by unfold f_M_make; rw [if_neg c_2, if_pos c_18, if_neg c_20, if_neg c_21, if_neg c_22, if_pos c_23]
              exact W.iret (v := (-2)) hx hb hr (fun t ht hW => ⟨⟨(-2), (up, dn, mu, am), rfl, hz, wb_of ht hW hP9 hK hD9⟩, hS.F ht⟩) hS.2.2 d_M_make_80
    · skip
      rw [lg_cmp_ge] at c_18
      refine lv_lload_n hx hb d_M_make_30 rfl (lv_at hl 4 rfl) ?_
      refine lv_lneg hx hb d_M_make_31 ?_
      refine lv_goto (tgt := 36) hx hb d_M_make_32 (by decide) ?_
      refine lv_lload hx hb d_M_make_36 (lv_at hl 1 rfl) ?_
      refine lv_ldiv hx hb d_M_make_38 (by rw [ev_1]; exact nz_g hy) ?_
      refine lv_topl (fun v_25 ev_25 => ?_)
      refine lv_lstore (lv' := [(10, .long v_25), (8, .long v_17), (6, .long v_1), (0, .ref g), (1, .long x), (3, .long y), (5, .int z)]) hx hb d_M_make_39 hl (by decide) rfl (fun ls hl => ?_)
      refine lv_lload hx hb d_M_make_41 (lv_at hl 1 rfl) ?_
      refine lv_ldc2 (v := 2147483647) hx hb hown (hg _ wg_304) d_M_make_43 ?_
      refine W.lcmp hx hb d_M_make_46 ?_
      refine lv_if_gt (tgt := 78) hx hb d_M_make_47 (by decide) (fun c_26 => ?_) (fun c_26 => ?_)
      · skip
        rw [lg_cmp_gt] at c_26
        refine lv_bipush (v := (-2)) hx hb d_M_make_78 (by decide) ?_
        subst ev_25
        subst ev_17
        subst ev_1
        have hP9 := hP.sub (ws' := [(g, .inr (2, [.int cd, .int am, .ref m1, .ref m2, .ref m3, .ref m4, .ref m5, .ref m6, .ref m7, .int wc, .ref m8])), (m1, .inl (cJ, 500, .inr (.inl up))), (m2, .inl (cJ, 500, .inr (.inl dn))), (m3, .inl (cI, 500, .inl mu))]) [0, 1, 2, 3] rfl
        have hD9 := hD.sub (ws' := [(g, .inr (2, [.int cd, .int am, .ref m1, .ref m2, .ref m3, .ref m4, .ref m5, .ref m6, .ref m7, .int wc, .ref m8])), (m1, .inl (cJ, 500, .inr (.inl up))), (m2, .inl (cJ, 500, .inr (.inl dn))), (m3, .inl (cI, 500, .inl mu))]) [0, 1, 2, 3] (by decide) rfl
        have hz : ((-2), (up, dn, mu, am)) = f_M_make up dn mu am x y z := by unfold f_M_make; rw [if_neg c_2, if_neg c_18, if_pos c_26]
        exact W.iret (v := (-2)) hx hb hr (fun t ht hW => ⟨⟨(-2), (up, dn, mu, am), rfl, hz, wb_of ht hW hP9 hK hD9⟩, hS.F ht⟩) hS.2.2 d_M_make_80
      · skip
        rw [lg_cmp_gt] at c_26
        refine lv_lload hx hb d_M_make_50 (lv_at hl 1 rfl) ?_
        refine lv_ldc2 (v := (-2147483647)) hx hb hown (hg _ wg_305) d_M_make_52 ?_
        refine W.lcmp hx hb d_M_make_55 ?_
        refine lv_if_lt (tgt := 78) hx hb d_M_make_56 (by decide) (fun c_27 => ?_) (fun c_27 => ?_)
        · skip
          rw [lg_cmp_lt] at c_27
          refine lv_bipush (v := (-2)) hx hb d_M_make_78 (by decide) ?_
          subst ev_25
          subst ev_17
          subst ev_1
          have hP9 := hP.sub (ws' := [(g, .inr (2, [.int cd, .int am, .ref m1, .ref m2, .ref m3, .ref m4, .ref m5, .ref m6, .ref m7, .int wc, .ref m8])), (m1, .inl (cJ, 500, .inr (.inl up))), (m2, .inl (cJ, 500, .inr (.inl dn))), (m3, .inl (cI, 500, .inl mu))]) [0, 1, 2, 3] rfl
          have hD9 := hD.sub (ws' := [(g, .inr (2, [.int cd, .int am, .ref m1, .ref m2, .ref m3, .ref m4, .ref m5, .ref m6, .ref m7, .int wc, .ref m8])), (m1, .inl (cJ, 500, .inr (.inl up))), (m2, .inl (cJ, 500, .inr (.inl dn))), (m3, .inl (cI, 500, .inl mu))]) [0, 1, 2, 3] (by decide) rfl
          have hz : ((-2), (up, dn, mu, am)) = f_M_make up dn mu am x y z := by unfold f_M_make; rw [if_neg c_2, if_neg c_18, if_neg c_26, if_pos c_27]
          exact W.iret (v := (-2)) hx hb hr (fun t ht hW => ⟨⟨(-2), (up, dn, mu, am), rfl, hz, wb_of ht hW hP9 hK hD9⟩, hS.F ht⟩) hS.2.2 d_M_make_80
        · skip
          rw [lg_cmp_lt] at c_27
          refine lv_lload hx hb d_M_make_59 (lv_at hl 0 rfl) ?_
          refine lv_ldc2 (v := 2147483647) hx hb hown (hg _ wg_304) d_M_make_61 ?_
          refine W.lcmp hx hb d_M_make_64 ?_
          refine lv_if_gt (tgt := 78) hx hb d_M_make_65 (by decide) (fun c_28 => ?_) (fun c_28 => ?_)
          · skip
            rw [lg_cmp_gt] at c_28
            refine lv_bipush (v := (-2)) hx hb d_M_make_78 (by decide) ?_
            subst ev_25
            subst ev_17
            subst ev_1
            have hP9 := hP.sub (ws' := [(g, .inr (2, [.int cd, .int am, .ref m1, .ref m2, .ref m3, .ref m4, .ref m5, .ref m6, .ref m7, .int wc, .ref m8])), (m1, .inl (cJ, 500, .inr (.inl up))), (m2, .inl (cJ, 500, .inr (.inl dn))), (m3, .inl (cI, 500, .inl mu))]) [0, 1, 2, 3] rfl
            have hD9 := hD.sub (ws' := [(g, .inr (2, [.int cd, .int am, .ref m1, .ref m2, .ref m3, .ref m4, .ref m5, .ref m6, .ref m7, .int wc, .ref m8])), (m1, .inl (cJ, 500, .inr (.inl up))), (m2, .inl (cJ, 500, .inr (.inl dn))), (m3, .inl (cI, 500, .inl mu))]) [0, 1, 2, 3] (by decide) rfl
            have hz : ((-2), (up, dn, mu, am)) = f_M_make up dn mu am x y z := by unfold f_M_make; rw [if_neg c_2, if_neg c_18, if_neg c_26, if_neg c_27, if_pos c_28]
            exact W.iret (v := (-2)) hx hb hr (fun t ht hW => ⟨⟨(-2), (up, dn, mu, am), rfl, hz, wb_of ht hW hP9 hK hD9⟩, hS.F ht⟩) hS.2.2 d_M_make_80
          · skip
            rw [lg_cmp_gt] at c_28
            refine lv_aload_n hx hb d_M_make_68 rfl (lv_at hl 3 rfl) ?_
            refine va_get (D := (dC, dI)) (ci := 2) (v := .int am) (C := R_M) (T := F_M) (N := 11) hx hb hg in_M hown hK hP 0 rfl rfl 1 (by decide) (hg _ wg_267) (fun _ h9 => h9) rfl d_M_make_69 ?_
            refine lv_sipush (v := 500) hx hb d_M_make_72 (by decide) ?_
            refine lv_icmp_ne (tgt := 81) hx hb d_M_make_75 (by decide) (fun c_29 => ?_) (fun c_29 => ?_)
            · skip
              refine lv_aload_n hx hb d_M_make_81 rfl (lv_at hl 3 rfl) ?_
              refine va_get (D := (dC, dI)) (ci := 2) (v := .ref m1) (C := R_M) (T := F_M) (N := 11) hx hb hg in_M hown hK hP 0 rfl rfl 2 (by decide) (hg _ wg_268) (fun _ h9 => h9) rfl d_M_make_82 ?_
              refine lv_aload_n hx hb d_M_make_85 rfl (lv_at hl 3 rfl) ?_
              refine va_get (D := (dC, dI)) (ci := 2) (v := .int am) (C := R_M) (T := F_M) (N := 11) hx hb hg in_M hown hK hP 0 rfl rfl 1 (by decide) (hg _ wg_267) (fun _ h9 => h9) rfl d_M_make_86 ?_
              refine lv_lload hx hb d_M_make_89 (lv_at hl 1 rfl) ?_
              refine va_last hx hb hK hP hD hS 1 0 rfl rfl (in_ne ha0 ha c_29) d_M_make_91 (fun H locs hP hD hS => ?_)
              have hP : va_P (dC, dI) classes [(g, .inr (2, [.int cd, .int am, .ref m1, .ref m2, .ref m3, .ref m4, .ref m5, .ref m6, .ref m7, .int wc, .ref m8])), (m1, .inl (cJ, 500, .inr (.inl (vp_updL up am.toNatClampNeg v_17)))), (m2, .inl (cJ, 500, .inr (.inl dn))), (m3, .inl (cI, 500, .inl mu))] H := hP
              have hD : va_D A [(g, .inr (2, [.int cd, .int am, .ref m1, .ref m2, .ref m3, .ref m4, .ref m5, .ref m6, .ref m7, .int wc, .ref m8])), (m1, .inl (cJ, 500, .inr (.inl (vp_updL up am.toNatClampNeg v_17)))), (m2, .inl (cJ, 500, .inr (.inl dn))), (m3, .inl (cI, 500, .inl mu))] := hD
              refine lv_aload_n hx hb d_M_make_92 rfl (lv_at hl 3 rfl) ?_
              refine va_get (D := (dC, dI)) (ci := 2) (v := .ref m2) (C := R_M) (T := F_M) (N := 11) hx hb hg in_M hown hK hP 0 rfl rfl 3 (by decide) (hg _ wg_269) (fun _ h9 => h9) rfl d_M_make_93 ?_
              refine lv_aload_n hx hb d_M_make_96 rfl (lv_at hl 3 rfl) ?_
              refine va_get (D := (dC, dI)) (ci := 2) (v := .int am) (C := R_M) (T := F_M) (N := 11) hx hb hg in_M hown hK hP 0 rfl rfl 1 (by decide) (hg _ wg_267) (fun _ h9 => h9) rfl d_M_make_97 ?_
              refine lv_lload hx hb d_M_make_100 (lv_at hl 0 rfl) ?_
              refine va_last hx hb hK hP hD hS 2 0 rfl rfl (in_ne ha0 ha c_29) d_M_make_102 (fun H locs hP hD hS => ?_)
              have hP : va_P (dC, dI) classes [(g, .inr (2, [.int cd, .int am, .ref m1, .ref m2, .ref m3, .ref m4, .ref m5, .ref m6, .ref m7, .int wc, .ref m8])), (m1, .inl (cJ, 500, .inr (.inl (vp_updL up am.toNatClampNeg v_17)))), (m2, .inl (cJ, 500, .inr (.inl (vp_updL dn am.toNatClampNeg v_25)))), (m3, .inl (cI, 500, .inl mu))] H := hP
              have hD : va_D A [(g, .inr (2, [.int cd, .int am, .ref m1, .ref m2, .ref m3, .ref m4, .ref m5, .ref m6, .ref m7, .int wc, .ref m8])), (m1, .inl (cJ, 500, .inr (.inl (vp_updL up am.toNatClampNeg v_17)))), (m2, .inl (cJ, 500, .inr (.inl (vp_updL dn am.toNatClampNeg v_25)))), (m3, .inl (cI, 500, .inl mu))] := hD
              refine lv_aload_n hx hb d_M_make_103 rfl (lv_at hl 3 rfl) ?_
              refine va_get (D := (dC, dI)) (ci := 2) (v := .ref m3) (C := R_M) (T := F_M) (N := 11) hx hb hg in_M hown hK hP 0 rfl rfl 4 (by decide) (hg _ wg_270) (fun _ h9 => h9) rfl d_M_make_104 ?_
              refine lv_aload_n hx hb d_M_make_107 rfl (lv_at hl 3 rfl) ?_
              refine va_get (D := (dC, dI)) (ci := 2) (v := .int am) (C := R_M) (T := F_M) (N := 11) hx hb hg in_M hown hK hP 0 rfl rfl 1 (by decide) (hg _ wg_267) (fun _ h9 => h9) rfl d_M_make_108 ?_
              refine lv_iload hx hb d_M_make_111 (lv_at hl 6 rfl) ?_
              refine va_iast hx hb hK hP hD hS 3 1 rfl rfl (in_ne ha0 ha c_29) d_M_make_113 (fun H locs hP hD hS => ?_)
              have hP : va_P (dC, dI) classes [(g, .inr (2, [.int cd, .int am, .ref m1, .ref m2, .ref m3, .ref m4, .ref m5, .ref m6, .ref m7, .int wc, .ref m8])), (m1, .inl (cJ, 500, .inr (.inl (vp_updL up am.toNatClampNeg v_17)))), (m2, .inl (cJ, 500, .inr (.inl (vp_updL dn am.toNatClampNeg v_25)))), (m3, .inl (cI, 500, .inl (upd mu am.toNatClampNeg z)))] H := hP
              have hD : va_D A [(g, .inr (2, [.int cd, .int am, .ref m1, .ref m2, .ref m3, .ref m4, .ref m5, .ref m6, .ref m7, .int wc, .ref m8])), (m1, .inl (cJ, 500, .inr (.inl (vp_updL up am.toNatClampNeg v_17)))), (m2, .inl (cJ, 500, .inr (.inl (vp_updL dn am.toNatClampNeg v_25)))), (m3, .inl (cI, 500, .inl (upd mu am.toNatClampNeg z)))] := hD
              refine lv_aload_n hx hb d_M_make_114 rfl (lv_at hl 3 rfl) ?_
              refine lv_dup hx hb d_M_make_115 rfl ?_
              refine va_get (D := (dC, dI)) (ci := 2) (v := .int am) (C := R_M) (T := F_M) (N := 11) hx hb hg in_M hown hK hP 0 rfl rfl 1 (by decide) (hg _ wg_267) (fun _ h9 => h9) rfl d_M_make_116 ?_
              refine lv_iconst (v := 1) hx hb d_M_make_119 (by decide) ?_
              refine lv_iadd hx hb d_M_make_120 ?_
              refine lv_topi (fun v_30 ev_30 => ?_)
              refine va_put (D := (dC, dI)) (ci := 2) (v := .int v_30) (ty := .int) (C := R_M) (T := F_M) (N := 11) hx hb hg in_M tt_M tt_M_ok nn_M hown hK hP hD hS 0 rfl rfl 1 (by decide) (hg _ wg_267) (fun _ h9 => h9) rfl (by decide +kernel) rfl rfl (Nat.le_of_ble_eq_true rfl) d_M_make_121 (fun H locs hP hD hS => ?_)
              have hP : va_P (dC, dI) classes [(g, .inr (2, [.int cd, .int v_30, .ref m1, .ref m2, .ref m3, .ref m4, .ref m5, .ref m6, .ref m7, .int wc, .ref m8])), (m1, .inl (cJ, 500, .inr (.inl (vp_updL up am.toNatClampNeg v_17)))), (m2, .inl (cJ, 500, .inr (.inl (vp_updL dn am.toNatClampNeg v_25)))), (m3, .inl (cI, 500, .inl (upd mu am.toNatClampNeg z)))] H := hP
              have hD : va_D A [(g, .inr (2, [.int cd, .int v_30, .ref m1, .ref m2, .ref m3, .ref m4, .ref m5, .ref m6, .ref m7, .int wc, .ref m8])), (m1, .inl (cJ, 500, .inr (.inl (vp_updL up am.toNatClampNeg v_17)))), (m2, .inl (cJ, 500, .inr (.inl (vp_updL dn am.toNatClampNeg v_25)))), (m3, .inl (cI, 500, .inl (upd mu am.toNatClampNeg z)))] := hD
              refine lv_aload_n hx hb d_M_make_124 rfl (lv_at hl 3 rfl) ?_
              refine va_get (D := (dC, dI)) (ci := 2) (v := .int v_30) (C := R_M) (T := F_M) (N := 11) hx hb hg in_M hown hK hP 0 rfl rfl 1 (by decide) (hg _ wg_267) (fun _ h9 => h9) rfl d_M_make_125 ?_
              refine lv_iconst (v := 1) hx hb d_M_make_128 (by decide) ?_
              refine lv_isub hx hb d_M_make_129 ?_
              subst ev_30
              subst ev_25
              subst ev_17
              subst ev_1
              have hP9 := hP.sub (ws' := [(g, .inr (2, [.int cd, .int (am + 1), .ref m1, .ref m2, .ref m3, .ref m4, .ref m5, .ref m6, .ref m7, .int wc, .ref m8])), (m1, .inl (cJ, 500, .inr (.inl (vp_updL up am.toNatClampNeg ((-x) / (f_M_common x y)))))), (m2, .inl (cJ, 500, .inr (.inl (vp_updL dn am.toNatClampNeg ((-y) / (f_M_common x y)))))), (m3, .inl (cI, 500, .inl (upd mu am.toNatClampNeg z)))]) [0, 1, 2, 3] rfl
              have hD9 := hD.sub (ws' := [(g, .inr (2, [.int cd, .int (am + 1), .ref m1, .ref m2, .ref m3, .ref m4, .ref m5, .ref m6, .ref m7, .int wc, .ref m8])), (m1, .inl (cJ, 500, .inr (.inl (vp_updL up am.toNatClampNeg ((-x) / (f_M_common x y)))))), (m2, .inl (cJ, 500, .inr (.inl (vp_updL dn am.toNatClampNeg ((-y) / (f_M_common x y)))))), (m3, .inl (cI, 500, .inl (upd mu am.toNatClampNeg z)))]) [0, 1, 2, 3] (by decide) rfl
              have hz : ((am + 1) - 1, (vp_updL up am.toNatClampNeg ((-x) / (f_M_common x y)), vp_updL dn am.toNatClampNeg ((-y) / (f_M_common x y)), upd mu am.toNatClampNeg z, (am + 1))) = f_M_make up dn mu am x y z := by unfold f_M_make; rw [if_neg c_2, if_neg c_18, if_neg c_26, if_neg c_27, if_neg c_28, if_neg c_29]
              exact W.iret (v := (am + 1) - 1) hx hb hr (fun t ht hW => ⟨⟨(am + 1) - 1, (vp_updL up am.toNatClampNeg ((-x) / (f_M_common x y)), vp_updL dn am.toNatClampNeg ((-y) / (f_M_common x y)), upd mu am.toNatClampNeg z, (am + 1)), rfl, hz, wb_of ht hW hP9 hK hD9⟩, hS.F ht⟩) hS.2.2 d_M_make_130
            · skip
              refine lv_bipush (v := (-2)) hx hb d_M_make_78 (by decide) ?_
              subst ev_25
              subst ev_17
              subst ev_1
              have hP9 := hP.sub (ws' := [(g, .inr (2, [.int cd, .int am, .ref m1, .ref m2, .ref m3, .ref m4, .ref m5, .ref m6, .ref m7, .int wc, .ref m8])), (m1, .inl (cJ, 500, .inr (.inl up))), (m2, .inl (cJ, 500, .inr (.inl dn))), (m3, .inl (cI, 500, .inl mu))]) [0, 1, 2, 3] rfl
              have hD9 := hD.sub (ws' := [(g, .inr (2, [.int cd, .int am, .ref m1, .ref m2, .ref m3, .ref m4, .ref m5, .ref m6, .ref m7, .int wc, .ref m8])), (m1, .inl (cJ, 500, .inr (.inl up))), (m2, .inl (cJ, 500, .inr (.inl dn))), (m3, .inl (cI, 500, .inl mu))]) [0, 1, 2, 3] (by decide) rfl
              have hz : ((-2), (up, dn, mu, am)) = f_M_make up dn mu am x y z := by unfold f_M_make; rw [if_neg c_2, if_neg c_18, if_neg c_26, if_neg c_27, if_neg c_28, if_pos c_29]
              exact W.iret (v := (-2)) hx hb hr (fun t ht hW => ⟨⟨(-2), (up, dn, mu, am), rfl, hz, wb_of ht hW hP9 hK hD9⟩, hS.F ht⟩) hS.2.2 d_M_make_80
abbrev mk5 (c : Int32) (p : Int32 × (Nat → Int64) × (Nat → Int64) × (Nat → Int32) × Int32) : Int32 × Int32 × (Nat → Int64) × (Nat → Int64) × (Nat → Int32) × Int32 := (p.1, c, p.2)
def f_M_value (up dn : Nat → Int64) (mu : Nat → Int32) (am : Int32) (x : Int64) (y : Int64) (z : Int32) : Int32 × Int32 × (Nat → Int64) × (Nat → Int64) × (Nat → Int32) × Int32 := if y = 0 then (0, (1, up, dn, mu, am)) else if z < 0 then ((-3), (0, up, dn, mu, am)) else if 4 < z then ((-3), (0, up, dn, mu, am)) else if x ≤ (-1000000000000000000) then ((-3), (0, up, dn, mu, am)) else if 1000000000000000000 ≤ x then ((-3), (0, up, dn, mu, am)) else if y ≤ (-1000000000000000000) then ((-3), (0, up, dn, mu, am)) else if y < 1000000000000000000 then (mk5 0 (f_M_make up dn mu am x y z)) else ((-3), (0, up, dn, mu, am))
set_option maxHeartbeats 4000000 in
set_option maxRecDepth 100000 in
theorem k_M_value (l : Launch) (dC : Nat → ClassId) (dI : Nat → Nat → Nat) (cJ cI cT : ClassId) (g m1 m2 m3 m4 m5 m6 m7 m8 : Nat) (cd am wc : Int32) (up dn : Nat → Int64) (mu : Nat → Int32) (x : Int64) (y : Int64) (z : Int32) (sz : Nat) (ha0 : 0 ≤ am.toInt) (ha : am.toInt ≤ (500 : Nat)) : Met l y_M_value w_M_value ({ frames := 2, cells := 0, slots := 0, locals := 60 }) (va_Pc [.ref g, .long x, .long y, .int z] (wx dC dI cJ cI cT sz [(g, .inr (2, [.int cd, .int am, .ref m1, .ref m2, .ref m3, .ref m4, .ref m5, .ref m6, .ref m7, .int wc, .ref m8])), (m1, .inl (cJ, 500, .inr (.inl up))), (m2, .inl (cJ, 500, .inr (.inl dn))), (m3, .inl (cI, 500, .inl mu))])) (va_Qi (fun (r9 : Int32) (u9 : Int32 × (Nat → Int64) × (Nat → Int64) × (Nat → Int32) × Int32) => (r9, u9) = f_M_value up dn mu am x y z) (fun u => wb dC dI cJ cI cT (va_A [(g, .inr (2, [.int cd, .int am, .ref m1, .ref m2, .ref m3, .ref m4, .ref m5, .ref m6, .ref m7, .int wc, .ref m8])), (m1, .inl (cJ, 500, .inr (.inl up))), (m2, .inl (cJ, 500, .inr (.inl dn))), (m3, .inl (cI, 500, .inl mu))] sz) [(g, .inr (2, [.int u.1, .int u.2.2.2.2, .ref m1, .ref m2, .ref m3, .ref m4, .ref m5, .ref m6, .ref m7, .int wc, .ref m8])), (m1, .inl (cJ, 500, .inr (.inl u.2.1))), (m2, .inl (cJ, 500, .inr (.inl u.2.2.1))), (m3, .inl (cI, 500, .inl u.2.2.2.1))]) (va_A [(g, .inr (2, [.int cd, .int am, .ref m1, .ref m2, .ref m3, .ref m4, .ref m5, .ref m6, .ref m7, .int wc, .ref m8])), (m1, .inl (cJ, 500, .inr (.inl up))), (m2, .inl (cJ, 500, .inr (.inl dn))), (m3, .inl (cI, 500, .inl mu))] sz)) 0 0 (va_A [(g, .inr (2, [.int cd, .int am, .ref m1, .ref m2, .ref m3, .ref m4, .ref m5, .ref m6, .ref m7, .int wc, .ref m8])), (m1, .inl (cJ, 500, .inr (.inl up))), (m2, .inl (cJ, 500, .inr (.inl dn))), (m3, .inl (cI, 500, .inl mu))] sz) := by
  refine Met.ofW (cc := c_M_value) (maxL := 6) (ret := (Option.some Jvm.ClassFile.FieldType.int)) (by decide) rfl ?_
  intro p e s m args below meth c s₁ B hml hv
  obtain ⟨rfl, hsz, hP, hK, hD0⟩ := hv
  have hx := B.exec
  have hb := B.bytes
  have hr := B.returns
  have hts := atoms_spec (ws := w_M_value) B.pre
  have hg : ∀ w ∈ WG, w.before _ s = true := fun w h => hts w (List.mem_cons_of_mem _ h)
  have hown : s.vm.findClass R_M = some m.cls := findClass_of_methodNamed B.named
  have hlocks := B.notSynchronized
  have hl := lv_entry ([.ref g, .long x, .long y, .int z]) (n := 6) (Nat.le_of_ble_eq_true rfl)
  rw [lg_entry_eq]
  generalize (lg_sl ([.ref g, .long x, .long y, .int z]) ++ List.replicate (6 - (lg_sl ([.ref g, .long x, .long y, .int z])).length) Slot.unset).toArray = ls at hl ⊢
  have hl : lv_has ls 6 [(0, .ref g), (1, .long x), (3, .long y), (5, .int z)] := hl
  subst hsz
  have hD := hD0.self (sz := s.heap.size)
  generalize hAe : va_A [(g, .inr (2, [.int cd, .int am, .ref m1, .ref m2, .ref m3, .ref m4, .ref m5, .ref m6, .ref m7, .int wc, .ref m8])), (m1, .inl (cJ, 500, .inr (.inl up))), (m2, .inl (cJ, 500, .inr (.inl dn))), (m3, .inl (cI, 500, .inl mu))] s.heap.size = A at hD ⊢
  have hA : ∀ q : Nat, s.heap.size ≤ q → A q := fun q h => by rw [← hAe]; exact Or.inr h
  have hS : va_S A s.heap s.heap [] := va_S.rf
  have hP : va_P (dC, dI) classes [(g, .inr (2, [.int cd, .int am, .ref m1, .ref m2, .ref m3, .ref m4, .ref m5, .ref m6, .ref m7, .int wc, .ref m8])), (m1, .inl (cJ, 500, .inr (.inl up))), (m2, .inl (cJ, 500, .inr (.inl dn))), (m3, .inl (cI, 500, .inl mu))] s.heap := hP
  have hD : va_D A [(g, .inr (2, [.int cd, .int am, .ref m1, .ref m2, .ref m3, .ref m4, .ref m5, .ref m6, .ref m7, .int wc, .ref m8])), (m1, .inl (cJ, 500, .inr (.inl up))), (m2, .inl (cJ, 500, .inr (.inl dn))), (m3, .inl (cI, 500, .inl mu))] := hD
  skip
  refine lv_aload_n hx hb d_M_value_0 rfl (lv_at hl 0 rfl) ?_
  refine lv_lload_n hx hb d_M_value_1 rfl (lv_at hl 2 rfl) ?_
  refine lv_lconst (v := 0) hx hb d_M_value_2 (by decide) ?_
  refine W.lcmp hx hb d_M_value_3 ?_
  refine lv_if_ne (tgt := 11) hx hb d_M_value_4 (by decide) (fun c_1 => ?_) (fun c_1 => ?_)
  · skip
    rw [lg_cmp_eq] at c_1
    refine lv_iconst (v := 0) hx hb d_M_value_11 (by decide) ?_
    refine va_put (D := (dC, dI)) (ci := 2) (v := .int 0) (ty := .int) (C := R_M) (T := F_M) (N := 11) hx hb hg in_M tt_M tt_M_ok nn_M hown hK hP hD hS 0 rfl rfl 0 (by decide) (hg _ wg_266) (fun _ h9 => h9) rfl (by decide +kernel) rfl rfl (Nat.le_of_ble_eq_true rfl) d_M_value_12 (fun H locs hP hD hS => ?_)
    have hP : va_P (dC, dI) classes [(g, .inr (2, [.int 0, .int am, .ref m1, .ref m2, .ref m3, .ref m4, .ref m5, .ref m6, .ref m7, .int wc, .ref m8])), (m1, .inl (cJ, 500, .inr (.inl up))), (m2, .inl (cJ, 500, .inr (.inl dn))), (m3, .inl (cI, 500, .inl mu))] H := hP
    have hD : va_D A [(g, .inr (2, [.int 0, .int am, .ref m1, .ref m2, .ref m3, .ref m4, .ref m5, .ref m6, .ref m7, .int wc, .ref m8])), (m1, .inl (cJ, 500, .inr (.inl up))), (m2, .inl (cJ, 500, .inr (.inl dn))), (m3, .inl (cI, 500, .inl mu))] := hD
    refine lv_aload_n hx hb d_M_value_15 rfl (lv_at hl 0 rfl) ?_
    refine va_get (D := (dC, dI)) (ci := 2) (v := .int 0) (C := R_M) (T := F_M) (N := 11) hx hb hg in_M hown hK hP 0 rfl rfl 0 (by decide) (hg _ wg_266) (fun _ h9 => h9) rfl d_M_value_16 ?_
    refine lv_if_le (tgt := 24) hx hb d_M_value_19 (by decide) (fun c_2 => ?_) (fun c_2 => ?_)
    · skip
      refine lv_iload hx hb d_M_value_24 (lv_at hl 3 rfl) ?_
      refine lv_if_lt (tgt := 67) hx hb d_M_value_26 (by decide) (fun c_3 => ?_) (fun c_3 => ?_)
      · skip
        refine lv_bipush (v := (-3)) hx hb d_M_value_67 (by decide) ?_
        have hP9 := hP.sub (ws' := [(g, .inr (2, [.int 0, .int am, .ref m1, .ref m2, .ref m3, .ref m4, .ref m5, .ref m6, .ref m7, .int wc, .ref m8])), (m1, .inl (cJ, 500, .inr (.inl up))), (m2, .inl (cJ, 500, .inr (.inl dn))), (m3, .inl (cI, 500, .inl mu))]) [0, 1, 2, 3] rfl
        have hD9 := hD.sub (ws' := [(g, .inr (2, [.int 0, .int am, .ref m1, .ref m2, .ref m3, .ref m4, .ref m5, .ref m6, .ref m7, .int wc, .ref m8])), (m1, .inl (cJ, 500, .inr (.inl up))), (m2, .inl (cJ, 500, .inr (.inl dn))), (m3, .inl (cI, 500, .inl mu))]) [0, 1, 2, 3] (by decide) rfl
        have hz : ((-3), (0, up, dn, mu, am)) = f_M_value up dn mu am x y z := by unfold f_M_value; rw [if_neg c_1, if_pos c_3]
        exact W.iret (v := (-3)) hx hb hr (fun t ht hW => ⟨⟨(-3), (0, up, dn, mu, am), rfl, hz, wb_of ht hW hP9 hK hD9⟩, hS.F ht⟩) hS.2.2 d_M_value_69
      · skip
        refine lv_iload hx hb d_M_value_29 (lv_at hl 3 rfl) ?_
        refine lv_iconst (v := 4) hx hb d_M_value_31 (by decide) ?_
        refine lv_icmp_gt (tgt := 67) hx hb d_M_value_32 (by decide) (fun c_4 => ?_) (fun c_4 => ?_)
        · skip
          refine lv_bipush (v := (-3)) hx hb d_M_value_67 (by decide) ?_
          have hP9 := hP.sub (ws' := [(g, .inr (2, [.int 0, .int am, .ref m1, .ref m2, .ref m3, .ref m4, .ref m5, .ref m6, .ref m7, .int wc, .ref m8])), (m1, .inl (cJ, 500, .inr (.inl up))), (m2, .inl (cJ, 500, .inr (.inl dn))), (m3, .inl (cI, 500, .inl mu))]) [0, 1, 2, 3] rfl
          have hD9 := hD.sub (ws' := [(g, .inr (2, [.int 0, .int am, .ref m1, .ref m2, .ref m3, .ref m4, .ref m5, .ref m6, .ref m7, .int wc, .ref m8])), (m1, .inl (cJ, 500, .inr (.inl up))), (m2, .inl (cJ, 500, .inr (.inl dn))), (m3, .inl (cI, 500, .inl mu))]) [0, 1, 2, 3] (by decide) rfl
          have hz : ((-3), (0, up, dn, mu, am)) = f_M_value up dn mu am x y z := by unfold f_M_value; rw [if_neg c_1, if_neg c_3, if_pos c_4]
          exact W.iret (v := (-3)) hx hb hr (fun t ht hW => ⟨⟨(-3), (0, up, dn, mu, am), rfl, hz, wb_of ht hW hP9 hK hD9⟩, hS.F ht⟩) hS.2.2 d_M_value_69
        · skip
          refine lv_lload_n hx hb d_M_value_35 rfl (lv_at hl 1 rfl) ?_
          refine lv_ldc2 (v := (-1000000000000000000)) hx hb hown (hg _ wg_296) d_M_value_36 ?_
          refine W.lcmp hx hb d_M_value_39 ?_
          refine lv_if_le (tgt := 67) hx hb d_M_value_40 (by decide) (fun c_5 => ?_) (fun c_5 => ?_)
          · skip
            rw [lg_cmp_le] at c_5
            refine lv_bipush (v := (-3)) hx hb d_M_value_67 (by decide) ?_
            have hP9 := hP.sub (ws' := [(g, .inr (2, [.int 0, .int am, .ref m1, .ref m2, .ref m3, .ref m4, .ref m5, .ref m6, .ref m7, .int wc, .ref m8])), (m1, .inl (cJ, 500, .inr (.inl up))), (m2, .inl (cJ, 500, .inr (.inl dn))), (m3, .inl (cI, 500, .inl mu))]) [0, 1, 2, 3] rfl
            have hD9 := hD.sub (ws' := [(g, .inr (2, [.int 0, .int am, .ref m1, .ref m2, .ref m3, .ref m4, .ref m5, .ref m6, .ref m7, .int wc, .ref m8])), (m1, .inl (cJ, 500, .inr (.inl up))), (m2, .inl (cJ, 500, .inr (.inl dn))), (m3, .inl (cI, 500, .inl mu))]) [0, 1, 2, 3] (by decide) rfl
            have hz : ((-3), (0, up, dn, mu, am)) = f_M_value up dn mu am x y z := by unfold f_M_value; rw [if_neg c_1, if_neg c_3, if_neg c_4, if_pos c_5]
            exact W.iret (v := (-3)) hx hb hr (fun t ht hW => ⟨⟨(-3), (0, up, dn, mu, am), rfl, hz, wb_of ht hW hP9 hK hD9⟩, hS.F ht⟩) hS.2.2 d_M_value_69
          · skip
            rw [lg_cmp_le] at c_5
            refine lv_lload_n hx hb d_M_value_43 rfl (lv_at hl 1 rfl) ?_
            refine lv_ldc2 (v := 1000000000000000000) hx hb hown (hg _ wg_297) d_M_value_44 ?_
            refine W.lcmp hx hb d_M_value_47 ?_
            refine lv_if_ge (tgt := 67) hx hb d_M_value_48 (by decide) (fun c_6 => ?_) (fun c_6 => ?_)
            · skip
              rw [lg_cmp_ge] at c_6
              refine lv_bipush (v := (-3)) hx hb d_M_value_67 (by decide) ?_
              have hP9 := hP.sub (ws' := [(g, .inr (2, [.int 0, .int am, .ref m1, .ref m2, .ref m3, .ref m4, .ref m5, .ref m6, .ref m7, .int wc, .ref m8])), (m1, .inl (cJ, 500, .inr (.inl up))), (m2, .inl (cJ, 500, .inr (.inl dn))), (m3, .inl (cI, 500, .inl mu))]) [0, 1, 2, 3] rfl
              have hD9 := hD.sub (ws' := [(g, .inr (2, [.int 0, .int am, .ref m1, .ref m2, .ref m3, .ref m4, .ref m5, .ref m6, .ref m7, .int wc, .ref m8])), (m1, .inl (cJ, 500, .inr (.inl up))), (m2, .inl (cJ, 500, .inr (.inl dn))), (m3, .inl (cI, 500, .inl mu))]) [0, 1, 2, 3] (by decide) rfl
              have hz : ((-3), (0, up, dn, mu, am)) = f_M_value up dn mu am x y z := by unfold f_M_value; rw [if_neg c_1, if_neg c_3, if_neg c_4, if_neg c_5, if_pos c_6]
              exact W.iret (v := (-3)) hx hb hr (fun t ht hW => ⟨⟨(-3), (0, up, dn, mu, am), rfl, hz, wb_of ht hW hP9 hK hD9⟩, hS.F ht⟩) hS.2.2 d_M_value_69
            · skip
              rw [lg_cmp_ge] at c_6
              refine lv_lload_n hx hb d_M_value_51 rfl (lv_at hl 2 rfl) ?_
              refine lv_ldc2 (v := (-1000000000000000000)) hx hb hown (hg _ wg_296) d_M_value_52 ?_
              refine W.lcmp hx hb d_M_value_55 ?_
              refine lv_if_le (tgt := 67) hx hb d_M_value_56 (by decide) (fun c_7 => ?_) (fun c_7 => ?_)
              · skip
                rw [lg_cmp_le] at c_7
                refine lv_bipush (v := (-3)) hx hb d_M_value_67 (by decide) ?_
                have hP9 := hP.sub (ws' := [(g, .inr (2, [.int 0, .int am, .ref m1, .ref m2, .ref m3, .ref m4, .ref m5, .ref m6, .ref m7, .int wc, .ref m8])), (m1, .inl (cJ, 500, .inr (.inl up))), (m2, .inl (cJ, 500, .inr (.inl dn))), (m3, .inl (cI, 500, .inl mu))]) [0, 1, 2, 3] rfl
                have hD9 := hD.sub (ws' := [(g, .inr (2, [.int 0, .int am, .ref m1, .ref m2, .ref m3, .ref m4, .ref m5, .ref m6, .ref m7, .int wc, .ref m8])), (m1, .inl (cJ, 500, .inr (.inl up))), (m2, .inl (cJ, 500, .inr (.inl dn))), (m3, .inl (cI, 500, .inl mu))]) [0, 1, 2, 3] (by decide) rfl
                have hz : ((-3), (0, up, dn, mu, am)) = f_M_value up dn mu am x y z := by unfold f_M_value; rw [if_neg c_1, if_neg c_3, if_neg c_4, if_neg c_5, if_neg c_6, if_pos c_7]
                exact W.iret (v := (-3)) hx hb hr (fun t ht hW => ⟨⟨(-3), (0, up, dn, mu, am), rfl, hz, wb_of ht hW hP9 hK hD9⟩, hS.F ht⟩) hS.2.2 d_M_value_69
              · skip
                rw [lg_cmp_le] at c_7
                refine lv_lload_n hx hb d_M_value_59 rfl (lv_at hl 2 rfl) ?_
                refine lv_ldc2 (v := 1000000000000000000) hx hb hown (hg _ wg_297) d_M_value_60 ?_
                refine W.lcmp hx hb d_M_value_63 ?_
                refine lv_if_lt (tgt := 70) hx hb d_M_value_64 (by decide) (fun c_8 => ?_) (fun c_8 => ?_)
                · skip
                  rw [lg_cmp_lt] at c_8
                  refine lv_aload_n hx hb d_M_value_70 rfl (lv_at hl 0 rfl) ?_
                  refine lv_lload_n hx hb d_M_value_71 rfl (lv_at hl 1 rfl) ?_
                  refine lv_lload_n hx hb d_M_value_72 rfl (lv_at hl 2 rfl) ?_
                  refine lv_iload hx hb d_M_value_73 (lv_at hl 3 rfl) ?_
                  have hPc := hP.sub (ws' := [(g, .inr (2, [.int 0, .int am, .ref m1, .ref m2, .ref m3, .ref m4, .ref m5, .ref m6, .ref m7, .int wc, .ref m8])), (m1, .inl (cJ, 500, .inr (.inl up))), (m2, .inl (cJ, 500, .inr (.inl dn))), (m3, .inl (cI, 500, .inl mu))]) [0, 1, 2, 3] rfl
                  have hDc := hD.sub (ws' := [(g, .inr (2, [.int 0, .int am, .ref m1, .ref m2, .ref m3, .ref m4, .ref m5, .ref m6, .ref m7, .int wc, .ref m8])), (m1, .inl (cJ, 500, .inr (.inl up))), (m2, .inl (cJ, 500, .inr (.inl dn))), (m3, .inl (cI, 500, .inl mu))]) [0, 1, 2, 3] (by decide) rfl
                  have hFc := va_free (wc := [(g, .inr (2, [.int 0, .int am, .ref m1, .ref m2, .ref m3, .ref m4, .ref m5, .ref m6, .ref m7, .int wc, .ref m8])), (m1, .inl (cJ, 500, .inr (.inl up))), (m2, .inl (cJ, 500, .inr (.inl dn))), (m3, .inl (cI, 500, .inl mu))]) hD hS hA [0, 1, 2, 3] rfl
                  refine va_calli (va_runV (As := [.long x, .long y, .int z]) (rest := []) ⟨hx, hb, hml, hown, hg⟩ (k_M_make l dC dI cJ cI cT g m1 m2 m3 m4 m5 m6 m7 m8 0 am wc up dn mu x y z _ ha0 ha c_1) (q_V 3 hg wg_300 wg_298 wg_299 wg_10 wg_15 rfl rfl (by decide +kernel) ⟨Nat.le_of_ble_eq_true rfl, Nat.le_of_ble_eq_true rfl⟩) ⟨wx_blind, va_recv hK hPc (ci := 2) (q0 := 0) rfl rfl, wx_pre (as := .ref g :: [.long x, .long y, .int z]) hPc hK hDc⟩ rfl rfl hl.1 rfl (lv_room (Nat.le_of_ble_eq_true rfl)) d_M_value_75 ⟨Nat.le_of_ble_eq_true rfl, Nat.le_of_ble_eq_true rfl⟩) hS (fun q _ h => hFc q h) hFc (fun r_13 u t H1 locs ht hvm hw_14 hB hz1 hk1 hS => ?_)
                  obtain ⟨up_9, dn_10, mu_11, am_12⟩ := u
                  obtain ⟨hP1, hK1, hD1⟩ := hB
                  rw [ht] at hP1
                  obtain ⟨hP, hD⟩ := va_join (wr := []) (w1 := [(g, .inr (2, [.int 0, .int am_12, .ref m1, .ref m2, .ref m3, .ref m4, .ref m5, .ref m6, .ref m7, .int wc, .ref m8])), (m1, .inl (cJ, 500, .inr (.inl up_9))), (m2, .inl (cJ, 500, .inr (.inl dn_10))), (m3, .inl (cI, 500, .inl mu_11))]) hP hD [0, 1, 2, 3] [] rfl rfl (by decide) (by decide) hk1 hFc hP1 hD1
                  generalize H1 = H at hP hS ⊢
                  have hP : va_P (dC, dI) classes [(g, .inr (2, [.int 0, .int am_12, .ref m1, .ref m2, .ref m3, .ref m4, .ref m5, .ref m6, .ref m7, .int wc, .ref m8])), (m1, .inl (cJ, 500, .inr (.inl up_9))), (m2, .inl (cJ, 500, .inr (.inl dn_10))), (m3, .inl (cI, 500, .inl mu_11))] H := hP
                  have hD : va_D A [(g, .inr (2, [.int 0, .int am_12, .ref m1, .ref m2, .ref m3, .ref m4, .ref m5, .ref m6, .ref m7, .int wc, .ref m8])), (m1, .inl (cJ, 500, .inr (.inl up_9))), (m2, .inl (cJ, 500, .inr (.inl dn_10))), (m3, .inl (cI, 500, .inl mu_11))] := hD
                  have hP9 := hP.sub (ws' := [(g, .inr (2, [.int 0, .int am_12, .ref m1, .ref m2, .ref m3, .ref m4, .ref m5, .ref m6, .ref m7, .int wc, .ref m8])), (m1, .inl (cJ, 500, .inr (.inl up_9))), (m2, .inl (cJ, 500, .inr (.inl dn_10))), (m3, .inl (cI, 500, .inl mu_11))]) [0, 1, 2, 3] rfl
                  have hD9 := hD.sub (ws' := [(g, .inr (2, [.int 0, .int am_12, .ref m1, .ref m2, .ref m3, .ref m4, .ref m5, .ref m6, .ref m7, .int wc, .ref m8])), (m1, .inl (cJ, 500, .inr (.inl up_9))), (m2, .inl (cJ, 500, .inr (.inl dn_10))), (m3, .inl (cI, 500, .inl mu_11))]) [0, 1, 2, 3] (by decide) rfl
                  have hz : (r_13, (0, up_9, dn_10, mu_11, am_12)) = f_M_value up dn mu am x y z := by unfold f_M_value; rw [if_neg c_1, if_neg c_3, if_neg c_4, if_neg c_5, if_neg c_6, if_neg c_7, if_pos c_8]; exact congrArg (mk5 0) hw_14
                  exact W.iret (v := r_13) hx hb hr (fun t ht hW => ⟨⟨r_13, (0, up_9, dn_10, mu_11, am_12), rfl, hz, wb_of ht hW hP9 hK hD9⟩, hS.F ht⟩) hS.2.2 d_M_value_78
                · skip
                  rw [lg_cmp_lt] at c_8
                  refine lv_bipush (v := (-3)) hx hb d_M_value_67 (by decide) ?_
                  have hP9 := hP.sub (ws' := [(g, .inr (2, [.int 0, .int am, .ref m1, .ref m2, .ref m3, .ref m4, .ref m5, .ref m6, .ref m7, .int wc, .ref m8])), (m1, .inl (cJ, 500, .inr (.inl up))), (m2, .inl (cJ, 500, .inr (.inl dn))), (m3, .inl (cI, 500, .inl mu))]) [0, 1, 2, 3] rfl
                  have hD9 := hD.sub (ws' := [(g, .inr (2, [.int 0, .int am, .ref m1, .ref m2, .ref m3, .ref m4, .ref m5, .ref m6, .ref m7, .int wc, .ref m8])), (m1, .inl (cJ, 500, .inr (.inl up))), (m2, .inl (cJ, 500, .inr (.inl dn))), (m3, .inl (cI, 500, .inl mu))]) [0, 1, 2, 3] (by decide) rfl
                  have hz : ((-3), (0, up, dn, mu, am)) = f_M_value up dn mu am x y z := by unfold f_M_value; rw [if_neg c_1, if_neg c_3, if_neg c_4, if_neg c_5, if_neg c_6, if_neg c_7, if_neg c_8]
                  exact W.iret (v := (-3)) hx hb hr (fun t ht hW => ⟨⟨(-3), (0, up, dn, mu, am), rfl, hz, wb_of ht hW hP9 hK hD9⟩, hS.F ht⟩) hS.2.2 d_M_value_69
    · skip
      exact absurd (by decide) c_2
  · skip
    rw [lg_cmp_eq] at c_1
    refine lv_iconst (v := 1) hx hb d_M_value_7 (by decide) ?_
    refine lv_goto (tgt := 12) hx hb d_M_value_8 (by decide) ?_
    refine va_put (D := (dC, dI)) (ci := 2) (v := .int 1) (ty := .int) (C := R_M) (T := F_M) (N := 11) hx hb hg in_M tt_M tt_M_ok nn_M hown hK hP hD hS 0 rfl rfl 0 (by decide) (hg _ wg_266) (fun _ h9 => h9) rfl (by decide +kernel) rfl rfl (Nat.le_of_ble_eq_true rfl) d_M_value_12 (fun H locs hP hD hS => ?_)
    have hP : va_P (dC, dI) classes [(g, .inr (2, [.int 1, .int am, .ref m1, .ref m2, .ref m3, .ref m4, .ref m5, .ref m6, .ref m7, .int wc, .ref m8])), (m1, .inl (cJ, 500, .inr (.inl up))), (m2, .inl (cJ, 500, .inr (.inl dn))), (m3, .inl (cI, 500, .inl mu))] H := hP
    have hD : va_D A [(g, .inr (2, [.int 1, .int am, .ref m1, .ref m2, .ref m3, .ref m4, .ref m5, .ref m6, .ref m7, .int wc, .ref m8])), (m1, .inl (cJ, 500, .inr (.inl up))), (m2, .inl (cJ, 500, .inr (.inl dn))), (m3, .inl (cI, 500, .inl mu))] := hD
    refine lv_aload_n hx hb d_M_value_15 rfl (lv_at hl 0 rfl) ?_
    refine va_get (D := (dC, dI)) (ci := 2) (v := .int 1) (C := R_M) (T := F_M) (N := 11) hx hb hg in_M hown hK hP 0 rfl rfl 0 (by decide) (hg _ wg_266) (fun _ h9 => h9) rfl d_M_value_16 ?_
    refine lv_if_le (tgt := 24) hx hb d_M_value_19 (by decide) (fun c_15 => ?_) (fun c_15 => ?_)
    · skip
      exact absurd c_15 (by decide)
    · skip
      refine lv_iconst (v := 0) hx hb d_M_value_22 (by decide) ?_
      have hP9 := hP.sub (ws' := [(g, .inr (2, [.int 1, .int am, .ref m1, .ref m2, .ref m3, .ref m4, .ref m5, .ref m6, .ref m7, .int wc, .ref m8])), (m1, .inl (cJ, 500, .inr (.inl up))), (m2, .inl (cJ, 500, .inr (.inl dn))), (m3, .inl (cI, 500, .inl mu))]) [0, 1, 2, 3] rfl
      have hD9 := hD.sub (ws' := [(g, .inr (2, [.int 1, .int am, .ref m1, .ref m2, .ref m3, .ref m4, .ref m5, .ref m6, .ref m7, .int wc, .ref m8])), (m1, .inl (cJ, 500, .inr (.inl up))), (m2, .inl (cJ, 500, .inr (.inl dn))), (m3, .inl (cI, 500, .inl mu))]) [0, 1, 2, 3] (by decide) rfl
      have hz : (0, (1, up, dn, mu, am)) = f_M_value up dn mu am x y z := by unfold f_M_value; rw [if_pos c_1]
      exact W.iret (v := 0) hx hb hr (fun t ht hW => ⟨⟨0, (1, up, dn, mu, am), rfl, hz, wb_of ht hW hP9 hK hD9⟩, hS.F ht⟩) hS.2.2 d_M_value_23
def f_M_add (up dn : Nat → Int64) (mu : Nat → Int32) (am : Int32) (a : Int32) (b : Int32) : Int32 × Int32 × (Nat → Int64) × (Nat → Int64) × (Nat → Int32) × Int32 := if (f_M_isAmount a am) = 0 then ((-3), (0, up, dn, mu, am)) else if (f_M_isAmount b am) = 0 then ((-3), (0, up, dn, mu, am)) else if (mu a.toNatClampNeg) = (mu b.toNatClampNeg) then (mk5 0 (f_M_make up dn mu am (((up a.toNatClampNeg) * (dn b.toNatClampNeg)) + ((up b.toNatClampNeg) * (dn a.toNatClampNeg))) ((dn a.toNatClampNeg) * (dn b.toNatClampNeg)) (mu a.toNatClampNeg))) else ((-1), (0, up, dn, mu, am))
set_option maxHeartbeats 4000000 in
set_option maxRecDepth 100000 in
theorem k_M_add (l : Launch) (dC : Nat → ClassId) (dI : Nat → Nat → Nat) (cJ cI cT : ClassId) (g m1 m2 m3 m4 m5 m6 m7 m8 : Nat) (cd am wc : Int32) (up dn : Nat → Int64) (mu : Nat → Int32) (a : Int32) (b : Int32) (sz : Nat) (ha0 : 0 ≤ am.toInt) (ha : am.toInt ≤ (500 : Nat)) (hq : ¬ f_M_isAmount a am = 0 → ¬ f_M_isAmount b am = 0 → ¬ dn a.toNatClampNeg * dn b.toNatClampNeg = 0) : Met l y_M_add w_M_add ({ frames := 2, cells := 0, slots := 0, locals := 60 }) (va_Pc [.ref g, .int a, .int b] (wx dC dI cJ cI cT sz [(g, .inr (2, [.int cd, .int am, .ref m1, .ref m2, .ref m3, .ref m4, .ref m5, .ref m6, .ref m7, .int wc, .ref m8])), (m1, .inl (cJ, 500, .inr (.inl up))), (m2, .inl (cJ, 500, .inr (.inl dn))), (m3, .inl (cI, 500, .inl mu))])) (va_Qi (fun (r9 : Int32) (u9 : Int32 × (Nat → Int64) × (Nat → Int64) × (Nat → Int32) × Int32) => (r9, u9) = f_M_add up dn mu am a b) (fun u => wb dC dI cJ cI cT (va_A [(g, .inr (2, [.int cd, .int am, .ref m1, .ref m2, .ref m3, .ref m4, .ref m5, .ref m6, .ref m7, .int wc, .ref m8])), (m1, .inl (cJ, 500, .inr (.inl up))), (m2, .inl (cJ, 500, .inr (.inl dn))), (m3, .inl (cI, 500, .inl mu))] sz) [(g, .inr (2, [.int u.1, .int u.2.2.2.2, .ref m1, .ref m2, .ref m3, .ref m4, .ref m5, .ref m6, .ref m7, .int wc, .ref m8])), (m1, .inl (cJ, 500, .inr (.inl u.2.1))), (m2, .inl (cJ, 500, .inr (.inl u.2.2.1))), (m3, .inl (cI, 500, .inl u.2.2.2.1))]) (va_A [(g, .inr (2, [.int cd, .int am, .ref m1, .ref m2, .ref m3, .ref m4, .ref m5, .ref m6, .ref m7, .int wc, .ref m8])), (m1, .inl (cJ, 500, .inr (.inl up))), (m2, .inl (cJ, 500, .inr (.inl dn))), (m3, .inl (cI, 500, .inl mu))] sz)) 0 0 (va_A [(g, .inr (2, [.int cd, .int am, .ref m1, .ref m2, .ref m3, .ref m4, .ref m5, .ref m6, .ref m7, .int wc, .ref m8])), (m1, .inl (cJ, 500, .inr (.inl up))), (m2, .inl (cJ, 500, .inr (.inl dn))), (m3, .inl (cI, 500, .inl mu))] sz) := by
  refine Met.ofW (cc := c_M_add) (maxL := 3) (ret := (Option.some Jvm.ClassFile.FieldType.int)) (by decide) rfl ?_
  intro p e s m args below meth c s₁ B hml hv
  obtain ⟨rfl, hsz, hP, hK, hD0⟩ := hv
  have hx := B.exec
  have hb := B.bytes
  have hr := B.returns
  have hts := atoms_spec (ws := w_M_add) B.pre
  have hg : ∀ w ∈ WG, w.before _ s = true := fun w h => hts w (List.mem_cons_of_mem _ h)
  have hown : s.vm.findClass R_M = some m.cls := findClass_of_methodNamed B.named
  have hlocks := B.notSynchronized
  have hl := lv_entry ([.ref g, .int a, .int b]) (n := 3) (Nat.le_of_ble_eq_true rfl)
  rw [lg_entry_eq]
  generalize (lg_sl ([.ref g, .int a, .int b]) ++ List.replicate (3 - (lg_sl ([.ref g, .int a, .int b])).length) Slot.unset).toArray = ls at hl ⊢
  have hl : lv_has ls 3 [(0, .ref g), (1, .int a), (2, .int b)] := hl
  subst hsz
  have hD := hD0.self (sz := s.heap.size)
  generalize hAe : va_A [(g, .inr (2, [.int cd, .int am, .ref m1, .ref m2, .ref m3, .ref m4, .ref m5, .ref m6, .ref m7, .int wc, .ref m8])), (m1, .inl (cJ, 500, .inr (.inl up))), (m2, .inl (cJ, 500, .inr (.inl dn))), (m3, .inl (cI, 500, .inl mu))] s.heap.size = A at hD ⊢
  have hA : ∀ q : Nat, s.heap.size ≤ q → A q := fun q h => by rw [← hAe]; exact Or.inr h
  have hS : va_S A s.heap s.heap [] := va_S.rf
  have hP : va_P (dC, dI) classes [(g, .inr (2, [.int cd, .int am, .ref m1, .ref m2, .ref m3, .ref m4, .ref m5, .ref m6, .ref m7, .int wc, .ref m8])), (m1, .inl (cJ, 500, .inr (.inl up))), (m2, .inl (cJ, 500, .inr (.inl dn))), (m3, .inl (cI, 500, .inl mu))] s.heap := hP
  have hD : va_D A [(g, .inr (2, [.int cd, .int am, .ref m1, .ref m2, .ref m3, .ref m4, .ref m5, .ref m6, .ref m7, .int wc, .ref m8])), (m1, .inl (cJ, 500, .inr (.inl up))), (m2, .inl (cJ, 500, .inr (.inl dn))), (m3, .inl (cI, 500, .inl mu))] := hD
  skip
  refine lv_aload_n hx hb d_M_add_0 rfl (lv_at hl 0 rfl) ?_
  refine lv_iconst (v := 0) hx hb d_M_add_1 (by decide) ?_
  refine va_put (D := (dC, dI)) (ci := 2) (v := .int 0) (ty := .int) (C := R_M) (T := F_M) (N := 11) hx hb hg in_M tt_M tt_M_ok nn_M hown hK hP hD hS 0 rfl rfl 0 (by decide) (hg _ wg_266) (fun _ h9 => h9) rfl (by decide +kernel) rfl rfl (Nat.le_of_ble_eq_true rfl) d_M_add_2 (fun H locs hP hD hS => ?_)
  have hP : va_P (dC, dI) classes [(g, .inr (2, [.int 0, .int am, .ref m1, .ref m2, .ref m3, .ref m4, .ref m5, .ref m6, .ref m7, .int wc, .ref m8])), (m1, .inl (cJ, 500, .inr (.inl up))), (m2, .inl (cJ, 500, .inr (.inl dn))), (m3, .inl (cI, 500, .inl mu))] H := hP
  have hD : va_D A [(g, .inr (2, [.int 0, .int am, .ref m1, .ref m2, .ref m3, .ref m4, .ref m5, .ref m6, .ref m7, .int wc, .ref m8])), (m1, .inl (cJ, 500, .inr (.inl up))), (m2, .inl (cJ, 500, .inr (.inl dn))), (m3, .inl (cI, 500, .inl mu))] := hD
  refine lv_aload_n hx hb d_M_add_5 rfl (lv_at hl 0 rfl) ?_
  refine lv_iload_n hx hb d_M_add_6 rfl (lv_at hl 1 rfl) ?_
  have hPc := hP.sub (ws' := [(g, .inr (2, [.int 0, .int am, .ref m1, .ref m2, .ref m3, .ref m4, .ref m5, .ref m6, .ref m7, .int wc, .ref m8]))]) [0] rfl
  refine W.callV (W.runV (As := [.int a]) (rest := []) ⟨hx, hb, hml, hown, hg⟩ (k_M_isAmount l dC dI cJ cI cT g m1 m2 m3 m4 m5 m6 m7 m8 0 am wc a) (q_V 1 hg wg_312 wg_310 wg_311 wg_11 wg_15 rfl rfl (by decide +kernel) ⟨Nat.le_of_ble_eq_true rfl, Nat.le_of_ble_eq_true rfl⟩) ⟨wd_blind, va_recv hK hPc (ci := 2) (q0 := 0) rfl rfl, wd_pre (as := .ref g :: [.int a]) hPc hK⟩ rfl rfl hl.1 rfl (lv_room (Nat.le_of_ble_eq_true rfl)) d_M_add_7 ⟨Nat.le_of_ble_eq_true rfl, Nat.le_of_ble_eq_true rfl⟩) ?_
  refine W.eq (g2 := F0 m 10 ls (.int (f_M_isAmount a am) :: [])) rfl ?_
  refine lv_if_eq (tgt := 21) hx hb d_M_add_10 (by decide) (fun c_1 => ?_) (fun c_1 => ?_)
  · skip
    refine lv_bipush (v := (-3)) hx hb d_M_add_21 (by decide) ?_
    have hP9 := hP.sub (ws' := [(g, .inr (2, [.int 0, .int am, .ref m1, .ref m2, .ref m3, .ref m4, .ref m5, .ref m6, .ref m7, .int wc, .ref m8])), (m1, .inl (cJ, 500, .inr (.inl up))), (m2, .inl (cJ, 500, .inr (.inl dn))), (m3, .inl (cI, 500, .inl mu))]) [0, 1, 2, 3] rfl
    have hD9 := hD.sub (ws' := [(g, .inr (2, [.int 0, .int am, .ref m1, .ref m2, .ref m3, .ref m4, .ref m5, .ref m6, .ref m7, .int wc, .ref m8])), (m1, .inl (cJ, 500, .inr (.inl up))), (m2, .inl (cJ, 500, .inr (.inl dn))), (m3, .inl (cI, 500, .inl mu))]) [0, 1, 2, 3] (by decide) rfl
    have hz : ((-3), (0, up, dn, mu, am)) = f_M_add up dn mu am a b := by unfold f_M_add; rw [if_pos c_1]
    exact W.iret (v := (-3)) hx hb hr (fun t ht hW => ⟨⟨(-3), (0, up, dn, mu, am), rfl, hz, wb_of ht hW hP9 hK hD9⟩, hS.F ht⟩) hS.2.2 d_M_add_23
  · skip
    refine lv_aload_n hx hb d_M_add_13 rfl (lv_at hl 0 rfl) ?_
    refine lv_iload_n hx hb d_M_add_14 rfl (lv_at hl 2 rfl) ?_
    have hPc := hP.sub (ws' := [(g, .inr (2, [.int 0, .int am, .ref m1, .ref m2, .ref m3, .ref m4, .ref m5, .ref m6, .ref m7, .int wc, .ref m8]))]) [0] rfl
    refine W.callV (W.runV (As := [.int b]) (rest := []) ⟨hx, hb, hml, hown, hg⟩ (k_M_isAmount l dC dI cJ cI cT g m1 m2 m3 m4 m5 m6 m7 m8 0 am wc b) (q_V 1 hg wg_312 wg_310 wg_311 wg_11 wg_15 rfl rfl (by decide +kernel) ⟨Nat.le_of_ble_eq_true rfl, Nat.le_of_ble_eq_true rfl⟩) ⟨wd_blind, va_recv hK hPc (ci := 2) (q0 := 0) rfl rfl, wd_pre (as := .ref g :: [.int b]) hPc hK⟩ rfl rfl hl.1 rfl (lv_room (Nat.le_of_ble_eq_true rfl)) d_M_add_15 ⟨Nat.le_of_ble_eq_true rfl, Nat.le_of_ble_eq_true rfl⟩) ?_
    refine W.eq (g2 := F0 m 18 ls (.int (f_M_isAmount b am) :: [])) rfl ?_
    refine lv_if_ne (tgt := 24) hx hb d_M_add_18 (by decide) (fun c_2 => ?_) (fun c_2 => ?_)
    · skip
      refine lv_aload_n hx hb d_M_add_24 rfl (lv_at hl 0 rfl) ?_
      refine va_get (D := (dC, dI)) (ci := 2) (v := .ref m3) (C := R_M) (T := F_M) (N := 11) hx hb hg in_M hown hK hP 0 rfl rfl 4 (by decide) (hg _ wg_270) (fun _ h9 => h9) rfl d_M_add_25 ?_
      refine lv_iload_n hx hb d_M_add_28 rfl (lv_at hl 1 rfl) ?_
      refine va_iald hx hb hK hP 3 1 rfl rfl (mam_in c_1 ha) d_M_add_29 ?_
      refine lv_aload_n hx hb d_M_add_30 rfl (lv_at hl 0 rfl) ?_
      refine va_get (D := (dC, dI)) (ci := 2) (v := .ref m3) (C := R_M) (T := F_M) (N := 11) hx hb hg in_M hown hK hP 0 rfl rfl 4 (by decide) (hg _ wg_270) (fun _ h9 => h9) rfl d_M_add_31 ?_
      refine lv_iload_n hx hb d_M_add_34 rfl (lv_at hl 2 rfl) ?_
      refine va_iald hx hb hK hP 3 1 rfl rfl (mam_in c_2 ha) d_M_add_35 ?_
      refine lv_icmp_eq (tgt := 41) hx hb d_M_add_36 (by decide) (fun c_3 => ?_) (fun c_3 => ?_)
      · skip
        refine lv_aload_n hx hb d_M_add_41 rfl (lv_at hl 0 rfl) ?_
        refine lv_aload_n hx hb d_M_add_42 rfl (lv_at hl 0 rfl) ?_
        refine va_get (D := (dC, dI)) (ci := 2) (v := .ref m1) (C := R_M) (T := F_M) (N := 11) hx hb hg in_M hown hK hP 0 rfl rfl 2 (by decide) (hg _ wg_268) (fun _ h9 => h9) rfl d_M_add_43 ?_
        refine lv_iload_n hx hb d_M_add_46 rfl (lv_at hl 1 rfl) ?_
        refine va_lald hx hb hK hP 1 0 rfl rfl (mam_in c_1 ha) d_M_add_47 ?_
        refine lv_aload_n hx hb d_M_add_48 rfl (lv_at hl 0 rfl) ?_
        refine va_get (D := (dC, dI)) (ci := 2) (v := .ref m2) (C := R_M) (T := F_M) (N := 11) hx hb hg in_M hown hK hP 0 rfl rfl 3 (by decide) (hg _ wg_269) (fun _ h9 => h9) rfl d_M_add_49 ?_
        refine lv_iload_n hx hb d_M_add_52 rfl (lv_at hl 2 rfl) ?_
        refine va_lald hx hb hK hP 2 0 rfl rfl (mam_in c_2 ha) d_M_add_53 ?_
        refine lv_lmul hx hb d_M_add_54 ?_
        refine lv_aload_n hx hb d_M_add_55 rfl (lv_at hl 0 rfl) ?_
        refine va_get (D := (dC, dI)) (ci := 2) (v := .ref m1) (C := R_M) (T := F_M) (N := 11) hx hb hg in_M hown hK hP 0 rfl rfl 2 (by decide) (hg _ wg_268) (fun _ h9 => h9) rfl d_M_add_56 ?_
        refine lv_iload_n hx hb d_M_add_59 rfl (lv_at hl 2 rfl) ?_
        refine va_lald hx hb hK hP 1 0 rfl rfl (mam_in c_2 ha) d_M_add_60 ?_
        refine lv_aload_n hx hb d_M_add_61 rfl (lv_at hl 0 rfl) ?_
        refine va_get (D := (dC, dI)) (ci := 2) (v := .ref m2) (C := R_M) (T := F_M) (N := 11) hx hb hg in_M hown hK hP 0 rfl rfl 3 (by decide) (hg _ wg_269) (fun _ h9 => h9) rfl d_M_add_62 ?_
        refine lv_iload_n hx hb d_M_add_65 rfl (lv_at hl 1 rfl) ?_
        refine va_lald hx hb hK hP 2 0 rfl rfl (mam_in c_1 ha) d_M_add_66 ?_
        refine lv_lmul hx hb d_M_add_67 ?_
        refine lv_ladd hx hb d_M_add_68 ?_
        refine lv_aload_n hx hb d_M_add_69 rfl (lv_at hl 0 rfl) ?_
        refine va_get (D := (dC, dI)) (ci := 2) (v := .ref m2) (C := R_M) (T := F_M) (N := 11) hx hb hg in_M hown hK hP 0 rfl rfl 3 (by decide) (hg _ wg_269) (fun _ h9 => h9) rfl d_M_add_70 ?_
        refine lv_iload_n hx hb d_M_add_73 rfl (lv_at hl 1 rfl) ?_
        refine va_lald hx hb hK hP 2 0 rfl rfl (mam_in c_1 ha) d_M_add_74 ?_
        refine lv_aload_n hx hb d_M_add_75 rfl (lv_at hl 0 rfl) ?_
        refine va_get (D := (dC, dI)) (ci := 2) (v := .ref m2) (C := R_M) (T := F_M) (N := 11) hx hb hg in_M hown hK hP 0 rfl rfl 3 (by decide) (hg _ wg_269) (fun _ h9 => h9) rfl d_M_add_76 ?_
        refine lv_iload_n hx hb d_M_add_79 rfl (lv_at hl 2 rfl) ?_
        refine va_lald hx hb hK hP 2 0 rfl rfl (mam_in c_2 ha) d_M_add_80 ?_
        refine lv_lmul hx hb d_M_add_81 ?_
        refine lv_aload_n hx hb d_M_add_82 rfl (lv_at hl 0 rfl) ?_
        refine va_get (D := (dC, dI)) (ci := 2) (v := .ref m3) (C := R_M) (T := F_M) (N := 11) hx hb hg in_M hown hK hP 0 rfl rfl 4 (by decide) (hg _ wg_270) (fun _ h9 => h9) rfl d_M_add_83 ?_
        refine lv_iload_n hx hb d_M_add_86 rfl (lv_at hl 1 rfl) ?_
        refine va_iald hx hb hK hP 3 1 rfl rfl (mam_in c_1 ha) d_M_add_87 ?_
        have hPc := hP.sub (ws' := [(g, .inr (2, [.int 0, .int am, .ref m1, .ref m2, .ref m3, .ref m4, .ref m5, .ref m6, .ref m7, .int wc, .ref m8])), (m1, .inl (cJ, 500, .inr (.inl up))), (m2, .inl (cJ, 500, .inr (.inl dn))), (m3, .inl (cI, 500, .inl mu))]) [0, 1, 2, 3] rfl
        have hDc := hD.sub (ws' := [(g, .inr (2, [.int 0, .int am, .ref m1, .ref m2, .ref m3, .ref m4, .ref m5, .ref m6, .ref m7, .int wc, .ref m8])), (m1, .inl (cJ, 500, .inr (.inl up))), (m2, .inl (cJ, 500, .inr (.inl dn))), (m3, .inl (cI, 500, .inl mu))]) [0, 1, 2, 3] (by decide) rfl
        have hFc := va_free (wc := [(g, .inr (2, [.int 0, .int am, .ref m1, .ref m2, .ref m3, .ref m4, .ref m5, .ref m6, .ref m7, .int wc, .ref m8])), (m1, .inl (cJ, 500, .inr (.inl up))), (m2, .inl (cJ, 500, .inr (.inl dn))), (m3, .inl (cI, 500, .inl mu))]) hD hS hA [0, 1, 2, 3] rfl
        refine va_calli (va_runV (As := [.long (((up a.toNatClampNeg) * (dn b.toNatClampNeg)) + ((up b.toNatClampNeg) * (dn a.toNatClampNeg))), .long ((dn a.toNatClampNeg) * (dn b.toNatClampNeg)), .int (mu a.toNatClampNeg)]) (rest := []) ⟨hx, hb, hml, hown, hg⟩ (k_M_make l dC dI cJ cI cT g m1 m2 m3 m4 m5 m6 m7 m8 0 am wc up dn mu (((up a.toNatClampNeg) * (dn b.toNatClampNeg)) + ((up b.toNatClampNeg) * (dn a.toNatClampNeg))) ((dn a.toNatClampNeg) * (dn b.toNatClampNeg)) (mu a.toNatClampNeg) _ ha0 ha (hq c_1 c_2)) (q_V 3 hg wg_300 wg_298 wg_299 wg_10 wg_15 rfl rfl (by decide +kernel) ⟨Nat.le_of_ble_eq_true rfl, Nat.le_of_ble_eq_true rfl⟩) ⟨wx_blind, va_recv hK hPc (ci := 2) (q0 := 0) rfl rfl, wx_pre (as := .ref g :: [.long (((up a.toNatClampNeg) * (dn b.toNatClampNeg)) + ((up b.toNatClampNeg) * (dn a.toNatClampNeg))), .long ((dn a.toNatClampNeg) * (dn b.toNatClampNeg)), .int (mu a.toNatClampNeg)]) hPc hK hDc⟩ rfl rfl hl.1 rfl (lv_room (Nat.le_of_ble_eq_true rfl)) d_M_add_88 ⟨Nat.le_of_ble_eq_true rfl, Nat.le_of_ble_eq_true rfl⟩) hS (fun q _ h => hFc q h) hFc (fun r_8 u t H1 locs ht hvm hw_9 hB hz1 hk1 hS => ?_)
        obtain ⟨up_4, dn_5, mu_6, am_7⟩ := u
        obtain ⟨hP1, hK1, hD1⟩ := hB
        rw [ht] at hP1
        obtain ⟨hP, hD⟩ := va_join (wr := []) (w1 := [(g, .inr (2, [.int 0, .int am_7, .ref m1, .ref m2, .ref m3, .ref m4, .ref m5, .ref m6, .ref m7, .int wc, .ref m8])), (m1, .inl (cJ, 500, .inr (.inl up_4))), (m2, .inl (cJ, 500, .inr (.inl dn_5))), (m3, .inl (cI, 500, .inl mu_6))]) hP hD [0, 1, 2, 3] [] rfl rfl (by decide) (by decide) hk1 hFc hP1 hD1
        generalize H1 = H at hP hS ⊢
        have hP : va_P (dC, dI) classes [(g, .inr (2, [.int 0, .int am_7, .ref m1, .ref m2, .ref m3, .ref m4, .ref m5, .ref m6, .ref m7, .int wc, .ref m8])), (m1, .inl (cJ, 500, .inr (.inl up_4))), (m2, .inl (cJ, 500, .inr (.inl dn_5))), (m3, .inl (cI, 500, .inl mu_6))] H := hP
        have hD : va_D A [(g, .inr (2, [.int 0, .int am_7, .ref m1, .ref m2, .ref m3, .ref m4, .ref m5, .ref m6, .ref m7, .int wc, .ref m8])), (m1, .inl (cJ, 500, .inr (.inl up_4))), (m2, .inl (cJ, 500, .inr (.inl dn_5))), (m3, .inl (cI, 500, .inl mu_6))] := hD
        have hP9 := hP.sub (ws' := [(g, .inr (2, [.int 0, .int am_7, .ref m1, .ref m2, .ref m3, .ref m4, .ref m5, .ref m6, .ref m7, .int wc, .ref m8])), (m1, .inl (cJ, 500, .inr (.inl up_4))), (m2, .inl (cJ, 500, .inr (.inl dn_5))), (m3, .inl (cI, 500, .inl mu_6))]) [0, 1, 2, 3] rfl
        have hD9 := hD.sub (ws' := [(g, .inr (2, [.int 0, .int am_7, .ref m1, .ref m2, .ref m3, .ref m4, .ref m5, .ref m6, .ref m7, .int wc, .ref m8])), (m1, .inl (cJ, 500, .inr (.inl up_4))), (m2, .inl (cJ, 500, .inr (.inl dn_5))), (m3, .inl (cI, 500, .inl mu_6))]) [0, 1, 2, 3] (by decide) rfl
        have hz : (r_8, (0, up_4, dn_5, mu_6, am_7)) = f_M_add up dn mu am a b := by unfold f_M_add; rw [if_neg c_1, if_neg c_2, if_pos c_3]; exact congrArg (mk5 0) hw_9
        exact W.iret (v := r_8) hx hb hr (fun t ht hW => ⟨⟨r_8, (0, up_4, dn_5, mu_6, am_7), rfl, hz, wb_of ht hW hP9 hK hD9⟩, hS.F ht⟩) hS.2.2 d_M_add_91
      · skip
        refine lv_iconst (v := (-1)) hx hb d_M_add_39 (by decide) ?_
        have hP9 := hP.sub (ws' := [(g, .inr (2, [.int 0, .int am, .ref m1, .ref m2, .ref m3, .ref m4, .ref m5, .ref m6, .ref m7, .int wc, .ref m8])), (m1, .inl (cJ, 500, .inr (.inl up))), (m2, .inl (cJ, 500, .inr (.inl dn))), (m3, .inl (cI, 500, .inl mu))]) [0, 1, 2, 3] rfl
        have hD9 := hD.sub (ws' := [(g, .inr (2, [.int 0, .int am, .ref m1, .ref m2, .ref m3, .ref m4, .ref m5, .ref m6, .ref m7, .int wc, .ref m8])), (m1, .inl (cJ, 500, .inr (.inl up))), (m2, .inl (cJ, 500, .inr (.inl dn))), (m3, .inl (cI, 500, .inl mu))]) [0, 1, 2, 3] (by decide) rfl
        have hz : ((-1), (0, up, dn, mu, am)) = f_M_add up dn mu am a b := by unfold f_M_add; rw [if_neg c_1, if_neg c_2, if_neg c_3]
        exact W.iret (v := (-1)) hx hb hr (fun t ht hW => ⟨⟨(-1), (0, up, dn, mu, am), rfl, hz, wb_of ht hW hP9 hK hD9⟩, hS.F ht⟩) hS.2.2 d_M_add_40
    · skip
      refine lv_bipush (v := (-3)) hx hb d_M_add_21 (by decide) ?_
      have hP9 := hP.sub (ws' := [(g, .inr (2, [.int 0, .int am, .ref m1, .ref m2, .ref m3, .ref m4, .ref m5, .ref m6, .ref m7, .int wc, .ref m8])), (m1, .inl (cJ, 500, .inr (.inl up))), (m2, .inl (cJ, 500, .inr (.inl dn))), (m3, .inl (cI, 500, .inl mu))]) [0, 1, 2, 3] rfl
      have hD9 := hD.sub (ws' := [(g, .inr (2, [.int 0, .int am, .ref m1, .ref m2, .ref m3, .ref m4, .ref m5, .ref m6, .ref m7, .int wc, .ref m8])), (m1, .inl (cJ, 500, .inr (.inl up))), (m2, .inl (cJ, 500, .inr (.inl dn))), (m3, .inl (cI, 500, .inl mu))]) [0, 1, 2, 3] (by decide) rfl
      have hz : ((-3), (0, up, dn, mu, am)) = f_M_add up dn mu am a b := by unfold f_M_add; rw [if_neg c_1, if_pos c_2]
      exact W.iret (v := (-3)) hx hb hr (fun t ht hW => ⟨⟨(-3), (0, up, dn, mu, am), rfl, hz, wb_of ht hW hP9 hK hD9⟩, hS.F ht⟩) hS.2.2 d_M_add_23
def f_M_times (up dn : Nat → Int64) (mu : Nat → Int32) (am : Int32) (a : Int32) (b : Int32) : Int32 × Int32 × (Nat → Int64) × (Nat → Int64) × (Nat → Int32) × Int32 := if (f_M_isAmount a am) = 0 then ((-3), (0, up, dn, mu, am)) else if (f_M_isAmount b am) = 0 then ((-3), (0, up, dn, mu, am)) else if (mu a.toNatClampNeg) = 0 then if (mu b.toNatClampNeg) = (-1) then ((-1), (0, up, dn, mu, am)) else (mk5 0 (f_M_make up dn mu am ((up a.toNatClampNeg) * (up b.toNatClampNeg)) ((dn a.toNatClampNeg) * (dn b.toNatClampNeg)) (mu b.toNatClampNeg))) else if (mu b.toNatClampNeg) = 0 then if (mu a.toNatClampNeg) = (-1) then ((-1), (0, up, dn, mu, am)) else (mk5 0 (f_M_make up dn mu am ((up a.toNatClampNeg) * (up b.toNatClampNeg)) ((dn a.toNatClampNeg) * (dn b.toNatClampNeg)) (mu a.toNatClampNeg))) else if (f_M_areTwo (mu a.toNatClampNeg) (mu b.toNatClampNeg) 2 3) = 0 then if (f_M_areTwo (mu a.toNatClampNeg) (mu b.toNatClampNeg) 1 4) = 0 then ((-1), (0, up, dn, mu, am)) else (mk5 0 (f_M_make up dn mu am ((up a.toNatClampNeg) * (up b.toNatClampNeg)) ((dn a.toNatClampNeg) * (dn b.toNatClampNeg)) 1)) else (mk5 0 (f_M_make up dn mu am ((up a.toNatClampNeg) * (up b.toNatClampNeg)) ((dn a.toNatClampNeg) * (dn b.toNatClampNeg)) 2))
set_option maxHeartbeats 4000000 in
set_option maxRecDepth 100000 in
theorem k_M_times (l : Launch) (dC : Nat → ClassId) (dI : Nat → Nat → Nat) (cJ cI cT : ClassId) (g m1 m2 m3 m4 m5 m6 m7 m8 : Nat) (cd am wc : Int32) (up dn : Nat → Int64) (mu : Nat → Int32) (a : Int32) (b : Int32) (sz : Nat) (ha0 : 0 ≤ am.toInt) (ha : am.toInt ≤ (500 : Nat)) (hq : ¬ f_M_isAmount a am = 0 → ¬ f_M_isAmount b am = 0 → ¬ dn a.toNatClampNeg * dn b.toNatClampNeg = 0) : Met l y_M_times w_M_times ({ frames := 2, cells := 0, slots := 0, locals := 60 }) (va_Pc [.ref g, .int a, .int b] (wx dC dI cJ cI cT sz [(g, .inr (2, [.int cd, .int am, .ref m1, .ref m2, .ref m3, .ref m4, .ref m5, .ref m6, .ref m7, .int wc, .ref m8])), (m1, .inl (cJ, 500, .inr (.inl up))), (m2, .inl (cJ, 500, .inr (.inl dn))), (m3, .inl (cI, 500, .inl mu))])) (va_Qi (fun (r9 : Int32) (u9 : Int32 × (Nat → Int64) × (Nat → Int64) × (Nat → Int32) × Int32) => (r9, u9) = f_M_times up dn mu am a b) (fun u => wb dC dI cJ cI cT (va_A [(g, .inr (2, [.int cd, .int am, .ref m1, .ref m2, .ref m3, .ref m4, .ref m5, .ref m6, .ref m7, .int wc, .ref m8])), (m1, .inl (cJ, 500, .inr (.inl up))), (m2, .inl (cJ, 500, .inr (.inl dn))), (m3, .inl (cI, 500, .inl mu))] sz) [(g, .inr (2, [.int u.1, .int u.2.2.2.2, .ref m1, .ref m2, .ref m3, .ref m4, .ref m5, .ref m6, .ref m7, .int wc, .ref m8])), (m1, .inl (cJ, 500, .inr (.inl u.2.1))), (m2, .inl (cJ, 500, .inr (.inl u.2.2.1))), (m3, .inl (cI, 500, .inl u.2.2.2.1))]) (va_A [(g, .inr (2, [.int cd, .int am, .ref m1, .ref m2, .ref m3, .ref m4, .ref m5, .ref m6, .ref m7, .int wc, .ref m8])), (m1, .inl (cJ, 500, .inr (.inl up))), (m2, .inl (cJ, 500, .inr (.inl dn))), (m3, .inl (cI, 500, .inl mu))] sz)) 0 0 (va_A [(g, .inr (2, [.int cd, .int am, .ref m1, .ref m2, .ref m3, .ref m4, .ref m5, .ref m6, .ref m7, .int wc, .ref m8])), (m1, .inl (cJ, 500, .inr (.inl up))), (m2, .inl (cJ, 500, .inr (.inl dn))), (m3, .inl (cI, 500, .inl mu))] sz) := by
  refine Met.ofW (cc := c_M_times) (maxL := 6) (ret := (Option.some Jvm.ClassFile.FieldType.int)) (by decide) rfl ?_
  intro p e s m args below meth c s₁ B hml hv
  obtain ⟨rfl, hsz, hP, hK, hD0⟩ := hv
  have hx := B.exec
  have hb := B.bytes
  have hr := B.returns
  have hts := atoms_spec (ws := w_M_times) B.pre
  have hg : ∀ w ∈ WG, w.before _ s = true := fun w h => hts w (List.mem_cons_of_mem _ h)
  have hown : s.vm.findClass R_M = some m.cls := findClass_of_methodNamed B.named
  have hlocks := B.notSynchronized
  have hl := lv_entry ([.ref g, .int a, .int b]) (n := 6) (Nat.le_of_ble_eq_true rfl)
  rw [lg_entry_eq]
  generalize (lg_sl ([.ref g, .int a, .int b]) ++ List.replicate (6 - (lg_sl ([.ref g, .int a, .int b])).length) Slot.unset).toArray = ls at hl ⊢
  have hl : lv_has ls 6 [(0, .ref g), (1, .int a), (2, .int b)] := hl
  subst hsz
  have hD := hD0.self (sz := s.heap.size)
  generalize hAe : va_A [(g, .inr (2, [.int cd, .int am, .ref m1, .ref m2, .ref m3, .ref m4, .ref m5, .ref m6, .ref m7, .int wc, .ref m8])), (m1, .inl (cJ, 500, .inr (.inl up))), (m2, .inl (cJ, 500, .inr (.inl dn))), (m3, .inl (cI, 500, .inl mu))] s.heap.size = A at hD ⊢
  have hA : ∀ q : Nat, s.heap.size ≤ q → A q := fun q h => by rw [← hAe]; exact Or.inr h
  have hS : va_S A s.heap s.heap [] := va_S.rf
  have hP : va_P (dC, dI) classes [(g, .inr (2, [.int cd, .int am, .ref m1, .ref m2, .ref m3, .ref m4, .ref m5, .ref m6, .ref m7, .int wc, .ref m8])), (m1, .inl (cJ, 500, .inr (.inl up))), (m2, .inl (cJ, 500, .inr (.inl dn))), (m3, .inl (cI, 500, .inl mu))] s.heap := hP
  have hD : va_D A [(g, .inr (2, [.int cd, .int am, .ref m1, .ref m2, .ref m3, .ref m4, .ref m5, .ref m6, .ref m7, .int wc, .ref m8])), (m1, .inl (cJ, 500, .inr (.inl up))), (m2, .inl (cJ, 500, .inr (.inl dn))), (m3, .inl (cI, 500, .inl mu))] := hD
  skip
  refine lv_aload_n hx hb d_M_times_0 rfl (lv_at hl 0 rfl) ?_
  refine lv_iconst (v := 0) hx hb d_M_times_1 (by decide) ?_
  refine va_put (D := (dC, dI)) (ci := 2) (v := .int 0) (ty := .int) (C := R_M) (T := F_M) (N := 11) hx hb hg in_M tt_M tt_M_ok nn_M hown hK hP hD hS 0 rfl rfl 0 (by decide) (hg _ wg_266) (fun _ h9 => h9) rfl (by decide +kernel) rfl rfl (Nat.le_of_ble_eq_true rfl) d_M_times_2 (fun H locs hP hD hS => ?_)
  have hP : va_P (dC, dI) classes [(g, .inr (2, [.int 0, .int am, .ref m1, .ref m2, .ref m3, .ref m4, .ref m5, .ref m6, .ref m7, .int wc, .ref m8])), (m1, .inl (cJ, 500, .inr (.inl up))), (m2, .inl (cJ, 500, .inr (.inl dn))), (m3, .inl (cI, 500, .inl mu))] H := hP
  have hD : va_D A [(g, .inr (2, [.int 0, .int am, .ref m1, .ref m2, .ref m3, .ref m4, .ref m5, .ref m6, .ref m7, .int wc, .ref m8])), (m1, .inl (cJ, 500, .inr (.inl up))), (m2, .inl (cJ, 500, .inr (.inl dn))), (m3, .inl (cI, 500, .inl mu))] := hD
  refine lv_aload_n hx hb d_M_times_5 rfl (lv_at hl 0 rfl) ?_
  refine lv_iload_n hx hb d_M_times_6 rfl (lv_at hl 1 rfl) ?_
  have hPc := hP.sub (ws' := [(g, .inr (2, [.int 0, .int am, .ref m1, .ref m2, .ref m3, .ref m4, .ref m5, .ref m6, .ref m7, .int wc, .ref m8]))]) [0] rfl
  refine W.callV (W.runV (As := [.int a]) (rest := []) ⟨hx, hb, hml, hown, hg⟩ (k_M_isAmount l dC dI cJ cI cT g m1 m2 m3 m4 m5 m6 m7 m8 0 am wc a) (q_V 1 hg wg_312 wg_310 wg_311 wg_11 wg_15 rfl rfl (by decide +kernel) ⟨Nat.le_of_ble_eq_true rfl, Nat.le_of_ble_eq_true rfl⟩) ⟨wd_blind, va_recv hK hPc (ci := 2) (q0 := 0) rfl rfl, wd_pre (as := .ref g :: [.int a]) hPc hK⟩ rfl rfl hl.1 rfl (lv_room (Nat.le_of_ble_eq_true rfl)) d_M_times_7 ⟨Nat.le_of_ble_eq_true rfl, Nat.le_of_ble_eq_true rfl⟩) ?_
  refine W.eq (g2 := F0 m 10 ls (.int (f_M_isAmount a am) :: [])) rfl ?_
  refine lv_if_eq (tgt := 21) hx hb d_M_times_10 (by decide) (fun c_1 => ?_) (fun c_1 => ?_)
  · skip
    refine lv_bipush (v := (-3)) hx hb d_M_times_21 (by decide) ?_
    have hP9 := hP.sub (ws' := [(g, .inr (2, [.int 0, .int am, .ref m1, .ref m2, .ref m3, .ref m4, .ref m5, .ref m6, .ref m7, .int wc, .ref m8])), (m1, .inl (cJ, 500, .inr (.inl up))), (m2, .inl (cJ, 500, .inr (.inl dn))), (m3, .inl (cI, 500, .inl mu))]) [0, 1, 2, 3] rfl
    have hD9 := hD.sub (ws' := [(g, .inr (2, [.int 0, .int am, .ref m1, .ref m2, .ref m3, .ref m4, .ref m5, .ref m6, .ref m7, .int wc, .ref m8])), (m1, .inl (cJ, 500, .inr (.inl up))), (m2, .inl (cJ, 500, .inr (.inl dn))), (m3, .inl (cI, 500, .inl mu))]) [0, 1, 2, 3] (by decide) rfl
    have hz : ((-3), (0, up, dn, mu, am)) = f_M_times up dn mu am a b := by unfold f_M_times; rw [if_pos c_1]
    exact W.iret (v := (-3)) hx hb hr (fun t ht hW => ⟨⟨(-3), (0, up, dn, mu, am), rfl, hz, wb_of ht hW hP9 hK hD9⟩, hS.F ht⟩) hS.2.2 d_M_times_23
  · skip
    refine lv_aload_n hx hb d_M_times_13 rfl (lv_at hl 0 rfl) ?_
    refine lv_iload_n hx hb d_M_times_14 rfl (lv_at hl 2 rfl) ?_
    have hPc := hP.sub (ws' := [(g, .inr (2, [.int 0, .int am, .ref m1, .ref m2, .ref m3, .ref m4, .ref m5, .ref m6, .ref m7, .int wc, .ref m8]))]) [0] rfl
    refine W.callV (W.runV (As := [.int b]) (rest := []) ⟨hx, hb, hml, hown, hg⟩ (k_M_isAmount l dC dI cJ cI cT g m1 m2 m3 m4 m5 m6 m7 m8 0 am wc b) (q_V 1 hg wg_312 wg_310 wg_311 wg_11 wg_15 rfl rfl (by decide +kernel) ⟨Nat.le_of_ble_eq_true rfl, Nat.le_of_ble_eq_true rfl⟩) ⟨wd_blind, va_recv hK hPc (ci := 2) (q0 := 0) rfl rfl, wd_pre (as := .ref g :: [.int b]) hPc hK⟩ rfl rfl hl.1 rfl (lv_room (Nat.le_of_ble_eq_true rfl)) d_M_times_15 ⟨Nat.le_of_ble_eq_true rfl, Nat.le_of_ble_eq_true rfl⟩) ?_
    refine W.eq (g2 := F0 m 18 ls (.int (f_M_isAmount b am) :: [])) rfl ?_
    refine lv_if_ne (tgt := 24) hx hb d_M_times_18 (by decide) (fun c_2 => ?_) (fun c_2 => ?_)
    · skip
      refine lv_aload_n hx hb d_M_times_24 rfl (lv_at hl 0 rfl) ?_
      refine va_get (D := (dC, dI)) (ci := 2) (v := .ref m3) (C := R_M) (T := F_M) (N := 11) hx hb hg in_M hown hK hP 0 rfl rfl 4 (by decide) (hg _ wg_270) (fun _ h9 => h9) rfl d_M_times_25 ?_
      refine lv_iload_n hx hb d_M_times_28 rfl (lv_at hl 1 rfl) ?_
      refine va_iald hx hb hK hP 3 1 rfl rfl (mam_in c_1 ha) d_M_times_29 ?_
      refine lv_topi (fun v_3 ev_3 => ?_)
      refine lv_istore_n (lv' := [(3, .int v_3), (0, .ref g), (1, .int a), (2, .int b)]) hx hb d_M_times_30 rfl hl (by decide) rfl (fun ls hl => ?_)
      refine lv_aload_n hx hb d_M_times_31 rfl (lv_at hl 1 rfl) ?_
      refine va_get (D := (dC, dI)) (ci := 2) (v := .ref m3) (C := R_M) (T := F_M) (N := 11) hx hb hg in_M hown hK hP 0 rfl rfl 4 (by decide) (hg _ wg_270) (fun _ h9 => h9) rfl d_M_times_32 ?_
      refine lv_iload_n hx hb d_M_times_35 rfl (lv_at hl 3 rfl) ?_
      refine va_iald hx hb hK hP 3 1 rfl rfl (mam_in c_2 ha) d_M_times_36 ?_
      refine lv_topi (fun v_4 ev_4 => ?_)
      refine lv_istore (lv' := [(4, .int v_4), (3, .int v_3), (0, .ref g), (1, .int a), (2, .int b)]) hx hb d_M_times_37 hl (by decide) rfl (fun ls hl => ?_)
      refine lv_iload_n hx hb d_M_times_39 rfl (lv_at hl 1 rfl) ?_
      refine lv_if_ne (tgt := 48) hx hb d_M_times_40 (by decide) (fun c_5 => ?_) (fun c_5 => ?_)
      · skip
        refine lv_iload hx hb d_M_times_48 (lv_at hl 0 rfl) ?_
        refine lv_if_ne (tgt := 57) hx hb d_M_times_50 (by decide) (fun c_6 => ?_) (fun c_6 => ?_)
        · skip
          refine lv_iload_n hx hb d_M_times_57 rfl (lv_at hl 1 rfl) ?_
          refine lv_iload hx hb d_M_times_58 (lv_at hl 0 rfl) ?_
          refine lv_iconst (v := 2) hx hb d_M_times_60 (by decide) ?_
          refine lv_iconst (v := 3) hx hb d_M_times_61 (by decide) ?_
          refine W.callV (W.runS (As := [.int v_3, .int v_4, .int 2, .int 3]) (rest := []) ⟨hx, hb, hml, hown, hg⟩ (k_M_areTwo l v_3 v_4 2 3) (q_S 4 hg wg_319 wg_317 wg_318 wg_15 rfl rfl (by decide +kernel) ⟨Nat.le_of_ble_eq_true rfl, Nat.le_of_ble_eq_true rfl⟩) ⟨nw_blind, fun _ _ _ => ⟨rfl, trivial⟩⟩ rfl rfl hl.1 rfl (lv_room (Nat.le_of_ble_eq_true rfl)) d_M_times_62 ⟨Nat.le_of_ble_eq_true rfl, Nat.le_of_ble_eq_true rfl⟩) ?_
          refine W.eq (g2 := F0 m 65 ls (.int (f_M_areTwo v_3 v_4 2 3) :: [])) rfl ?_
          refine lv_if_eq (tgt := 72) hx hb d_M_times_65 (by decide) (fun c_7 => ?_) (fun c_7 => ?_)
          · skip
            refine lv_iload_n hx hb d_M_times_72 rfl (lv_at hl 1 rfl) ?_
            refine lv_iload hx hb d_M_times_73 (lv_at hl 0 rfl) ?_
            refine lv_iconst (v := 1) hx hb d_M_times_75 (by decide) ?_
            refine lv_iconst (v := 4) hx hb d_M_times_76 (by decide) ?_
            refine W.callV (W.runS (As := [.int v_3, .int v_4, .int 1, .int 4]) (rest := []) ⟨hx, hb, hml, hown, hg⟩ (k_M_areTwo l v_3 v_4 1 4) (q_S 4 hg wg_319 wg_317 wg_318 wg_15 rfl rfl (by decide +kernel) ⟨Nat.le_of_ble_eq_true rfl, Nat.le_of_ble_eq_true rfl⟩) ⟨nw_blind, fun _ _ _ => ⟨rfl, trivial⟩⟩ rfl rfl hl.1 rfl (lv_room (Nat.le_of_ble_eq_true rfl)) d_M_times_77 ⟨Nat.le_of_ble_eq_true rfl, Nat.le_of_ble_eq_true rfl⟩) ?_
            refine W.eq (g2 := F0 m 80 ls (.int (f_M_areTwo v_3 v_4 1 4) :: [])) rfl ?_
            refine lv_if_eq (tgt := 87) hx hb d_M_times_80 (by decide) (fun c_8 => ?_) (fun c_8 => ?_)
            · skip
              refine lv_iconst (v := (-1)) hx hb d_M_times_87 (by decide) ?_
              refine lv_istore (lv' := [(5, .int (-1)), (4, .int v_4), (3, .int v_3), (0, .ref g), (1, .int a), (2, .int b)]) hx hb d_M_times_88 hl (by decide) rfl (fun ls hl => ?_)
              refine lv_iload hx hb d_M_times_90 (lv_at hl 0 rfl) ?_
              refine lv_iconst (v := (-1)) hx hb d_M_times_92 (by decide) ?_
              refine lv_icmp_ne (tgt := 100) hx hb d_M_times_93 (by decide) (fun c_9 => ?_) (fun c_9 => ?_)
              · skip
                exact absurd c_9 (by decide)
              · skip
                refine lv_iconst (v := (-1)) hx hb d_M_times_96 (by decide) ?_
                refine lv_goto (tgt := 132) hx hb d_M_times_97 (by decide) ?_
                subst ev_4
                subst ev_3
                have hP9 := hP.sub (ws' := [(g, .inr (2, [.int 0, .int am, .ref m1, .ref m2, .ref m3, .ref m4, .ref m5, .ref m6, .ref m7, .int wc, .ref m8])), (m1, .inl (cJ, 500, .inr (.inl up))), (m2, .inl (cJ, 500, .inr (.inl dn))), (m3, .inl (cI, 500, .inl mu))]) [0, 1, 2, 3] rfl
                have hD9 := hD.sub (ws' := [(g, .inr (2, [.int 0, .int am, .ref m1, .ref m2, .ref m3, .ref m4, .ref m5, .ref m6, .ref m7, .int wc, .ref m8])), (m1, .inl (cJ, 500, .inr (.inl up))), (m2, .inl (cJ, 500, .inr (.inl dn))), (m3, .inl (cI, 500, .inl mu))]) [0, 1, 2, 3] (by decide) rfl
                have hz : ((-1), (0, up, dn, mu, am)) = f_M_times up dn mu am a b := by unfold f_M_times; rw [if_neg c_1, if_neg c_2, if_neg c_5, if_neg c_6, if_pos c_7, if_pos c_8]
                exact W.iret (v := (-1)) hx hb hr (fun t ht hW => ⟨⟨(-1), (0, up, dn, mu, am), rfl, hz, wb_of ht hW hP9 hK hD9⟩, hS.F ht⟩) hS.2.2 d_M_times_132
            · skip
              refine lv_iconst (v := 1) hx hb d_M_times_83 (by decide) ?_
              refine lv_goto (tgt := 88) hx hb d_M_times_84 (by decide) ?_
              refine lv_istore (lv' := [(5, .int 1), (4, .int v_4), (3, .int v_3), (0, .ref g), (1, .int a), (2, .int b)]) hx hb d_M_times_88 hl (by decide) rfl (fun ls hl => ?_)
              refine lv_iload hx hb d_M_times_90 (lv_at hl 0 rfl) ?_
              refine lv_iconst (v := (-1)) hx hb d_M_times_92 (by decide) ?_
              refine lv_icmp_ne (tgt := 100) hx hb d_M_times_93 (by decide) (fun c_10 => ?_) (fun c_10 => ?_)
              · skip
                refine lv_aload_n hx hb d_M_times_100 rfl (lv_at hl 3 rfl) ?_
                refine lv_aload_n hx hb d_M_times_101 rfl (lv_at hl 3 rfl) ?_
                refine va_get (D := (dC, dI)) (ci := 2) (v := .ref m1) (C := R_M) (T := F_M) (N := 11) hx hb hg in_M hown hK hP 0 rfl rfl 2 (by decide) (hg _ wg_268) (fun _ h9 => h9) rfl d_M_times_102 ?_
                refine lv_iload_n hx hb d_M_times_105 rfl (lv_at hl 4 rfl) ?_
                refine va_lald hx hb hK hP 1 0 rfl rfl (mam_in c_1 ha) d_M_times_106 ?_
                refine lv_aload_n hx hb d_M_times_107 rfl (lv_at hl 3 rfl) ?_
                refine va_get (D := (dC, dI)) (ci := 2) (v := .ref m1) (C := R_M) (T := F_M) (N := 11) hx hb hg in_M hown hK hP 0 rfl rfl 2 (by decide) (hg _ wg_268) (fun _ h9 => h9) rfl d_M_times_108 ?_
                refine lv_iload_n hx hb d_M_times_111 rfl (lv_at hl 5 rfl) ?_
                refine va_lald hx hb hK hP 1 0 rfl rfl (mam_in c_2 ha) d_M_times_112 ?_
                refine lv_lmul hx hb d_M_times_113 ?_
                refine lv_aload_n hx hb d_M_times_114 rfl (lv_at hl 3 rfl) ?_
                refine va_get (D := (dC, dI)) (ci := 2) (v := .ref m2) (C := R_M) (T := F_M) (N := 11) hx hb hg in_M hown hK hP 0 rfl rfl 3 (by decide) (hg _ wg_269) (fun _ h9 => h9) rfl d_M_times_115 ?_
                refine lv_iload_n hx hb d_M_times_118 rfl (lv_at hl 4 rfl) ?_
                refine va_lald hx hb hK hP 2 0 rfl rfl (mam_in c_1 ha) d_M_times_119 ?_
                refine lv_aload_n hx hb d_M_times_120 rfl (lv_at hl 3 rfl) ?_
                refine va_get (D := (dC, dI)) (ci := 2) (v := .ref m2) (C := R_M) (T := F_M) (N := 11) hx hb hg in_M hown hK hP 0 rfl rfl 3 (by decide) (hg _ wg_269) (fun _ h9 => h9) rfl d_M_times_121 ?_
                refine lv_iload_n hx hb d_M_times_124 rfl (lv_at hl 5 rfl) ?_
                refine va_lald hx hb hK hP 2 0 rfl rfl (mam_in c_2 ha) d_M_times_125 ?_
                refine lv_lmul hx hb d_M_times_126 ?_
                refine lv_iload hx hb d_M_times_127 (lv_at hl 0 rfl) ?_
                have hPc := hP.sub (ws' := [(g, .inr (2, [.int 0, .int am, .ref m1, .ref m2, .ref m3, .ref m4, .ref m5, .ref m6, .ref m7, .int wc, .ref m8])), (m1, .inl (cJ, 500, .inr (.inl up))), (m2, .inl (cJ, 500, .inr (.inl dn))), (m3, .inl (cI, 500, .inl mu))]) [0, 1, 2, 3] rfl
                have hDc := hD.sub (ws' := [(g, .inr (2, [.int 0, .int am, .ref m1, .ref m2, .ref m3, .ref m4, .ref m5, .ref m6, .ref m7, .int wc, .ref m8])), (m1, .inl (cJ, 500, .inr (.inl up))), (m2, .inl (cJ, 500, .inr (.inl dn))), (m3, .inl (cI, 500, .inl mu))]) [0, 1, 2, 3] (by decide) rfl
                have hFc := va_free (wc := [(g, .inr (2, [.int 0, .int am, .ref m1, .ref m2, .ref m3, .ref m4, .ref m5, .ref m6, .ref m7, .int wc, .ref m8])), (m1, .inl (cJ, 500, .inr (.inl up))), (m2, .inl (cJ, 500, .inr (.inl dn))), (m3, .inl (cI, 500, .inl mu))]) hD hS hA [0, 1, 2, 3] rfl
                refine va_calli (va_runV (As := [.long ((up a.toNatClampNeg) * (up b.toNatClampNeg)), .long ((dn a.toNatClampNeg) * (dn b.toNatClampNeg)), .int 1]) (rest := []) ⟨hx, hb, hml, hown, hg⟩ (k_M_make l dC dI cJ cI cT g m1 m2 m3 m4 m5 m6 m7 m8 0 am wc up dn mu ((up a.toNatClampNeg) * (up b.toNatClampNeg)) ((dn a.toNatClampNeg) * (dn b.toNatClampNeg)) 1 _ ha0 ha (hq c_1 c_2)) (q_V 3 hg wg_300 wg_298 wg_299 wg_10 wg_15 rfl rfl (by decide +kernel) ⟨Nat.le_of_ble_eq_true rfl, Nat.le_of_ble_eq_true rfl⟩) ⟨wx_blind, va_recv hK hPc (ci := 2) (q0 := 0) rfl rfl, wx_pre (as := .ref g :: [.long ((up a.toNatClampNeg) * (up b.toNatClampNeg)), .long ((dn a.toNatClampNeg) * (dn b.toNatClampNeg)), .int 1]) hPc hK hDc⟩ rfl rfl hl.1 rfl (lv_room (Nat.le_of_ble_eq_true rfl)) d_M_times_129 ⟨Nat.le_of_ble_eq_true rfl, Nat.le_of_ble_eq_true rfl⟩) hS (fun q _ h => hFc q h) hFc (fun r_15 u t H1 locs ht hvm hw_16 hB hz1 hk1 hS => ?_)
                obtain ⟨up_11, dn_12, mu_13, am_14⟩ := u
                obtain ⟨hP1, hK1, hD1⟩ := hB
                rw [ht] at hP1
                obtain ⟨hP, hD⟩ := va_join (wr := []) (w1 := [(g, .inr (2, [.int 0, .int am_14, .ref m1, .ref m2, .ref m3, .ref m4, .ref m5, .ref m6, .ref m7, .int wc, .ref m8])), (m1, .inl (cJ, 500, .inr (.inl up_11))), (m2, .inl (cJ, 500, .inr (.inl dn_12))), (m3, .inl (cI, 500, .inl mu_13))]) hP hD [0, 1, 2, 3] [] rfl rfl (by decide) (by decide) hk1 hFc hP1 hD1
                generalize H1 = H at hP hS ⊢
                have hP : va_P (dC, dI) classes [(g, .inr (2, [.int 0, .int am_14, .ref m1, .ref m2, .ref m3, .ref m4, .ref m5, .ref m6, .ref m7, .int wc, .ref m8])), (m1, .inl (cJ, 500, .inr (.inl up_11))), (m2, .inl (cJ, 500, .inr (.inl dn_12))), (m3, .inl (cI, 500, .inl mu_13))] H := hP
                have hD : va_D A [(g, .inr (2, [.int 0, .int am_14, .ref m1, .ref m2, .ref m3, .ref m4, .ref m5, .ref m6, .ref m7, .int wc, .ref m8])), (m1, .inl (cJ, 500, .inr (.inl up_11))), (m2, .inl (cJ, 500, .inr (.inl dn_12))), (m3, .inl (cI, 500, .inl mu_13))] := hD
                subst ev_4
                subst ev_3
                have hP9 := hP.sub (ws' := [(g, .inr (2, [.int 0, .int am_14, .ref m1, .ref m2, .ref m3, .ref m4, .ref m5, .ref m6, .ref m7, .int wc, .ref m8])), (m1, .inl (cJ, 500, .inr (.inl up_11))), (m2, .inl (cJ, 500, .inr (.inl dn_12))), (m3, .inl (cI, 500, .inl mu_13))]) [0, 1, 2, 3] rfl
                have hD9 := hD.sub (ws' := [(g, .inr (2, [.int 0, .int am_14, .ref m1, .ref m2, .ref m3, .ref m4, .ref m5, .ref m6, .ref m7, .int wc, .ref m8])), (m1, .inl (cJ, 500, .inr (.inl up_11))), (m2, .inl (cJ, 500, .inr (.inl dn_12))), (m3, .inl (cI, 500, .inl mu_13))]) [0, 1, 2, 3] (by decide) rfl
                have hz : (r_15, (0, up_11, dn_12, mu_13, am_14)) = f_M_times up dn mu am a b := by unfold f_M_times; rw [if_neg c_1, if_neg c_2, if_neg c_5, if_neg c_6, if_pos c_7, if_neg c_8]; exact congrArg (mk5 0) hw_16
                exact W.iret (v := r_15) hx hb hr (fun t ht hW => ⟨⟨r_15, (0, up_11, dn_12, mu_13, am_14), rfl, hz, wb_of ht hW hP9 hK hD9⟩, hS.F ht⟩) hS.2.2 d_M_times_132
              · skip
                exact absurd c_10 (by decide)
          · skip
            refine lv_iconst (v := 2) hx hb d_M_times_68 (by decide) ?_
            refine lv_goto (tgt := 88) hx hb d_M_times_69 (by decide) ?_
            refine lv_istore (lv' := [(5, .int 2), (4, .int v_4), (3, .int v_3), (0, .ref g), (1, .int a), (2, .int b)]) hx hb d_M_times_88 hl (by decide) rfl (fun ls hl => ?_)
            refine lv_iload hx hb d_M_times_90 (lv_at hl 0 rfl) ?_
            refine lv_iconst (v := (-1)) hx hb d_M_times_92 (by decide) ?_
            refine lv_icmp_ne (tgt := 100) hx hb d_M_times_93 (by decide) (fun c_17 => ?_) (fun c_17 => ?_)
            · skip
              refine lv_aload_n hx hb d_M_times_100 rfl (lv_at hl 3 rfl) ?_
              refine lv_aload_n hx hb d_M_times_101 rfl (lv_at hl 3 rfl) ?_
              refine va_get (D := (dC, dI)) (ci := 2) (v := .ref m1) (C := R_M) (T := F_M) (N := 11) hx hb hg in_M hown hK hP 0 rfl rfl 2 (by decide) (hg _ wg_268) (fun _ h9 => h9) rfl d_M_times_102 ?_
              refine lv_iload_n hx hb d_M_times_105 rfl (lv_at hl 4 rfl) ?_
              refine va_lald hx hb hK hP 1 0 rfl rfl (mam_in c_1 ha) d_M_times_106 ?_
              refine lv_aload_n hx hb d_M_times_107 rfl (lv_at hl 3 rfl) ?_
              refine va_get (D := (dC, dI)) (ci := 2) (v := .ref m1) (C := R_M) (T := F_M) (N := 11) hx hb hg in_M hown hK hP 0 rfl rfl 2 (by decide) (hg _ wg_268) (fun _ h9 => h9) rfl d_M_times_108 ?_
              refine lv_iload_n hx hb d_M_times_111 rfl (lv_at hl 5 rfl) ?_
              refine va_lald hx hb hK hP 1 0 rfl rfl (mam_in c_2 ha) d_M_times_112 ?_
              refine lv_lmul hx hb d_M_times_113 ?_
              refine lv_aload_n hx hb d_M_times_114 rfl (lv_at hl 3 rfl) ?_
              refine va_get (D := (dC, dI)) (ci := 2) (v := .ref m2) (C := R_M) (T := F_M) (N := 11) hx hb hg in_M hown hK hP 0 rfl rfl 3 (by decide) (hg _ wg_269) (fun _ h9 => h9) rfl d_M_times_115 ?_
              refine lv_iload_n hx hb d_M_times_118 rfl (lv_at hl 4 rfl) ?_
              refine va_lald hx hb hK hP 2 0 rfl rfl (mam_in c_1 ha) d_M_times_119 ?_
              refine lv_aload_n hx hb d_M_times_120 rfl (lv_at hl 3 rfl) ?_
              refine va_get (D := (dC, dI)) (ci := 2) (v := .ref m2) (C := R_M) (T := F_M) (N := 11) hx hb hg in_M hown hK hP 0 rfl rfl 3 (by decide) (hg _ wg_269) (fun _ h9 => h9) rfl d_M_times_121 ?_
              refine lv_iload_n hx hb d_M_times_124 rfl (lv_at hl 5 rfl) ?_
              refine va_lald hx hb hK hP 2 0 rfl rfl (mam_in c_2 ha) d_M_times_125 ?_
              refine lv_lmul hx hb d_M_times_126 ?_
              refine lv_iload hx hb d_M_times_127 (lv_at hl 0 rfl) ?_
              have hPc := hP.sub (ws' := [(g, .inr (2, [.int 0, .int am, .ref m1, .ref m2, .ref m3, .ref m4, .ref m5, .ref m6, .ref m7, .int wc, .ref m8])), (m1, .inl (cJ, 500, .inr (.inl up))), (m2, .inl (cJ, 500, .inr (.inl dn))), (m3, .inl (cI, 500, .inl mu))]) [0, 1, 2, 3] rfl
              have hDc := hD.sub (ws' := [(g, .inr (2, [.int 0, .int am, .ref m1, .ref m2, .ref m3, .ref m4, .ref m5, .ref m6, .ref m7, .int wc, .ref m8])), (m1, .inl (cJ, 500, .inr (.inl up))), (m2, .inl (cJ, 500, .inr (.inl dn))), (m3, .inl (cI, 500, .inl mu))]) [0, 1, 2, 3] (by decide) rfl
              have hFc := va_free (wc := [(g, .inr (2, [.int 0, .int am, .ref m1, .ref m2, .ref m3, .ref m4, .ref m5, .ref m6, .ref m7, .int wc, .ref m8])), (m1, .inl (cJ, 500, .inr (.inl up))), (m2, .inl (cJ, 500, .inr (.inl dn))), (m3, .inl (cI, 500, .inl mu))]) hD hS hA [0, 1, 2, 3] rfl
              refine va_calli (va_runV (As := [.long ((up a.toNatClampNeg) * (up b.toNatClampNeg)), .long ((dn a.toNatClampNeg) * (dn b.toNatClampNeg)), .int 2]) (rest := []) ⟨hx, hb, hml, hown, hg⟩ (k_M_make l dC dI cJ cI cT g m1 m2 m3 m4 m5 m6 m7 m8 0 am wc up dn mu ((up a.toNatClampNeg) * (up b.toNatClampNeg)) ((dn a.toNatClampNeg) * (dn b.toNatClampNeg)) 2 _ ha0 ha (hq c_1 c_2)) (q_V 3 hg wg_300 wg_298 wg_299 wg_10 wg_15 rfl rfl (by decide +kernel) ⟨Nat.le_of_ble_eq_true rfl, Nat.le_of_ble_eq_true rfl⟩) ⟨wx_blind, va_recv hK hPc (ci := 2) (q0 := 0) rfl rfl, wx_pre (as := .ref g :: [.long ((up a.toNatClampNeg) * (up b.toNatClampNeg)), .long ((dn a.toNatClampNeg) * (dn b.toNatClampNeg)), .int 2]) hPc hK hDc⟩ rfl rfl hl.1 rfl (lv_room (Nat.le_of_ble_eq_true rfl)) d_M_times_129 ⟨Nat.le_of_ble_eq_true rfl, Nat.le_of_ble_eq_true rfl⟩) hS (fun q _ h => hFc q h) hFc (fun r_22 u t H1 locs ht hvm hw_23 hB hz1 hk1 hS => ?_)
              obtain ⟨up_18, dn_19, mu_20, am_21⟩ := u
              obtain ⟨hP1, hK1, hD1⟩ := hB
              rw [ht] at hP1
              obtain ⟨hP, hD⟩ := va_join (wr := []) (w1 := [(g, .inr (2, [.int 0, .int am_21, .ref m1, .ref m2, .ref m3, .ref m4, .ref m5, .ref m6, .ref m7, .int wc, .ref m8])), (m1, .inl (cJ, 500, .inr (.inl up_18))), (m2, .inl (cJ, 500, .inr (.inl dn_19))), (m3, .inl (cI, 500, .inl mu_20))]) hP hD [0, 1, 2, 3] [] rfl rfl (by decide) (by decide) hk1 hFc hP1 hD1
              generalize H1 = H at hP hS ⊢
              have hP : va_P (dC, dI) classes [(g, .inr (2, [.int 0, .int am_21, .ref m1, .ref m2, .ref m3, .ref m4, .ref m5, .ref m6, .ref m7, .int wc, .ref m8])), (m1, .inl (cJ, 500, .inr (.inl up_18))), (m2, .inl (cJ, 500, .inr (.inl dn_19))), (m3, .inl (cI, 500, .inl mu_20))] H := hP
              have hD : va_D A [(g, .inr (2, [.int 0, .int am_21, .ref m1, .ref m2, .ref m3, .ref m4, .ref m5, .ref m6, .ref m7, .int wc, .ref m8])), (m1, .inl (cJ, 500, .inr (.inl up_18))), (m2, .inl (cJ, 500, .inr (.inl dn_19))), (m3, .inl (cI, 500, .inl mu_20))] := hD
              subst ev_4
              subst ev_3
              have hP9 := hP.sub (ws' := [(g, .inr (2, [.int 0, .int am_21, .ref m1, .ref m2, .ref m3, .ref m4, .ref m5, .ref m6, .ref m7, .int wc, .ref m8])), (m1, .inl (cJ, 500, .inr (.inl up_18))), (m2, .inl (cJ, 500, .inr (.inl dn_19))), (m3, .inl (cI, 500, .inl mu_20))]) [0, 1, 2, 3] rfl
              have hD9 := hD.sub (ws' := [(g, .inr (2, [.int 0, .int am_21, .ref m1, .ref m2, .ref m3, .ref m4, .ref m5, .ref m6, .ref m7, .int wc, .ref m8])), (m1, .inl (cJ, 500, .inr (.inl up_18))), (m2, .inl (cJ, 500, .inr (.inl dn_19))), (m3, .inl (cI, 500, .inl mu_20))]) [0, 1, 2, 3] (by decide) rfl
              have hz : (r_22, (0, up_18, dn_19, mu_20, am_21)) = f_M_times up dn mu am a b := by unfold f_M_times; rw [if_neg c_1, if_neg c_2, if_neg c_5, if_neg c_6, if_neg c_7]; exact congrArg (mk5 0) hw_23
              exact W.iret (v := r_22) hx hb hr (fun t ht hW => ⟨⟨r_22, (0, up_18, dn_19, mu_20, am_21), rfl, hz, wb_of ht hW hP9 hK hD9⟩, hS.F ht⟩) hS.2.2 d_M_times_132
            · skip
              exact absurd c_17 (by decide)
        · skip
          refine lv_iload_n hx hb d_M_times_53 rfl (lv_at hl 1 rfl) ?_
          refine lv_goto (tgt := 88) hx hb d_M_times_54 (by decide) ?_
          refine lv_istore (lv' := [(5, .int v_3), (4, .int v_4), (3, .int v_3), (0, .ref g), (1, .int a), (2, .int b)]) hx hb d_M_times_88 hl (by decide) rfl (fun ls hl => ?_)
          refine lv_iload hx hb d_M_times_90 (lv_at hl 0 rfl) ?_
          refine lv_iconst (v := (-1)) hx hb d_M_times_92 (by decide) ?_
          refine lv_icmp_ne (tgt := 100) hx hb d_M_times_93 (by decide) (fun c_24 => ?_) (fun c_24 => ?_)
          · skip
            refine lv_aload_n hx hb d_M_times_100 rfl (lv_at hl 3 rfl) ?_
            refine lv_aload_n hx hb d_M_times_101 rfl (lv_at hl 3 rfl) ?_
            refine va_get (D := (dC, dI)) (ci := 2) (v := .ref m1) (C := R_M) (T := F_M) (N := 11) hx hb hg in_M hown hK hP 0 rfl rfl 2 (by decide) (hg _ wg_268) (fun _ h9 => h9) rfl d_M_times_102 ?_
            refine lv_iload_n hx hb d_M_times_105 rfl (lv_at hl 4 rfl) ?_
            refine va_lald hx hb hK hP 1 0 rfl rfl (mam_in c_1 ha) d_M_times_106 ?_
            refine lv_aload_n hx hb d_M_times_107 rfl (lv_at hl 3 rfl) ?_
            refine va_get (D := (dC, dI)) (ci := 2) (v := .ref m1) (C := R_M) (T := F_M) (N := 11) hx hb hg in_M hown hK hP 0 rfl rfl 2 (by decide) (hg _ wg_268) (fun _ h9 => h9) rfl d_M_times_108 ?_
            refine lv_iload_n hx hb d_M_times_111 rfl (lv_at hl 5 rfl) ?_
            refine va_lald hx hb hK hP 1 0 rfl rfl (mam_in c_2 ha) d_M_times_112 ?_
            refine lv_lmul hx hb d_M_times_113 ?_
            refine lv_aload_n hx hb d_M_times_114 rfl (lv_at hl 3 rfl) ?_
            refine va_get (D := (dC, dI)) (ci := 2) (v := .ref m2) (C := R_M) (T := F_M) (N := 11) hx hb hg in_M hown hK hP 0 rfl rfl 3 (by decide) (hg _ wg_269) (fun _ h9 => h9) rfl d_M_times_115 ?_
            refine lv_iload_n hx hb d_M_times_118 rfl (lv_at hl 4 rfl) ?_
            refine va_lald hx hb hK hP 2 0 rfl rfl (mam_in c_1 ha) d_M_times_119 ?_
            refine lv_aload_n hx hb d_M_times_120 rfl (lv_at hl 3 rfl) ?_
            refine va_get (D := (dC, dI)) (ci := 2) (v := .ref m2) (C := R_M) (T := F_M) (N := 11) hx hb hg in_M hown hK hP 0 rfl rfl 3 (by decide) (hg _ wg_269) (fun _ h9 => h9) rfl d_M_times_121 ?_
            refine lv_iload_n hx hb d_M_times_124 rfl (lv_at hl 5 rfl) ?_
            refine va_lald hx hb hK hP 2 0 rfl rfl (mam_in c_2 ha) d_M_times_125 ?_
            refine lv_lmul hx hb d_M_times_126 ?_
            refine lv_iload hx hb d_M_times_127 (lv_at hl 0 rfl) ?_
            have hPc := hP.sub (ws' := [(g, .inr (2, [.int 0, .int am, .ref m1, .ref m2, .ref m3, .ref m4, .ref m5, .ref m6, .ref m7, .int wc, .ref m8])), (m1, .inl (cJ, 500, .inr (.inl up))), (m2, .inl (cJ, 500, .inr (.inl dn))), (m3, .inl (cI, 500, .inl mu))]) [0, 1, 2, 3] rfl
            have hDc := hD.sub (ws' := [(g, .inr (2, [.int 0, .int am, .ref m1, .ref m2, .ref m3, .ref m4, .ref m5, .ref m6, .ref m7, .int wc, .ref m8])), (m1, .inl (cJ, 500, .inr (.inl up))), (m2, .inl (cJ, 500, .inr (.inl dn))), (m3, .inl (cI, 500, .inl mu))]) [0, 1, 2, 3] (by decide) rfl
            have hFc := va_free (wc := [(g, .inr (2, [.int 0, .int am, .ref m1, .ref m2, .ref m3, .ref m4, .ref m5, .ref m6, .ref m7, .int wc, .ref m8])), (m1, .inl (cJ, 500, .inr (.inl up))), (m2, .inl (cJ, 500, .inr (.inl dn))), (m3, .inl (cI, 500, .inl mu))]) hD hS hA [0, 1, 2, 3] rfl
            refine va_calli (va_runV (As := [.long ((up a.toNatClampNeg) * (up b.toNatClampNeg)), .long ((dn a.toNatClampNeg) * (dn b.toNatClampNeg)), .int v_3]) (rest := []) ⟨hx, hb, hml, hown, hg⟩ (k_M_make l dC dI cJ cI cT g m1 m2 m3 m4 m5 m6 m7 m8 0 am wc up dn mu ((up a.toNatClampNeg) * (up b.toNatClampNeg)) ((dn a.toNatClampNeg) * (dn b.toNatClampNeg)) v_3 _ ha0 ha (hq c_1 c_2)) (q_V 3 hg wg_300 wg_298 wg_299 wg_10 wg_15 rfl rfl (by decide +kernel) ⟨Nat.le_of_ble_eq_true rfl, Nat.le_of_ble_eq_true rfl⟩) ⟨wx_blind, va_recv hK hPc (ci := 2) (q0 := 0) rfl rfl, wx_pre (as := .ref g :: [.long ((up a.toNatClampNeg) * (up b.toNatClampNeg)), .long ((dn a.toNatClampNeg) * (dn b.toNatClampNeg)), .int v_3]) hPc hK hDc⟩ rfl rfl hl.1 rfl (lv_room (Nat.le_of_ble_eq_true rfl)) d_M_times_129 ⟨Nat.le_of_ble_eq_true rfl, Nat.le_of_ble_eq_true rfl⟩) hS (fun q _ h => hFc q h) hFc (fun r_29 u t H1 locs ht hvm hw_30 hB hz1 hk1 hS => ?_)
            obtain ⟨up_25, dn_26, mu_27, am_28⟩ := u
            obtain ⟨hP1, hK1, hD1⟩ := hB
            rw [ht] at hP1
            obtain ⟨hP, hD⟩ := va_join (wr := []) (w1 := [(g, .inr (2, [.int 0, .int am_28, .ref m1, .ref m2, .ref m3, .ref m4, .ref m5, .ref m6, .ref m7, .int wc, .ref m8])), (m1, .inl (cJ, 500, .inr (.inl up_25))), (m2, .inl (cJ, 500, .inr (.inl dn_26))), (m3, .inl (cI, 500, .inl mu_27))]) hP hD [0, 1, 2, 3] [] rfl rfl (by decide) (by decide) hk1 hFc hP1 hD1
            generalize H1 = H at hP hS ⊢
            have hP : va_P (dC, dI) classes [(g, .inr (2, [.int 0, .int am_28, .ref m1, .ref m2, .ref m3, .ref m4, .ref m5, .ref m6, .ref m7, .int wc, .ref m8])), (m1, .inl (cJ, 500, .inr (.inl up_25))), (m2, .inl (cJ, 500, .inr (.inl dn_26))), (m3, .inl (cI, 500, .inl mu_27))] H := hP
            have hD : va_D A [(g, .inr (2, [.int 0, .int am_28, .ref m1, .ref m2, .ref m3, .ref m4, .ref m5, .ref m6, .ref m7, .int wc, .ref m8])), (m1, .inl (cJ, 500, .inr (.inl up_25))), (m2, .inl (cJ, 500, .inr (.inl dn_26))), (m3, .inl (cI, 500, .inl mu_27))] := hD
            subst ev_4
            subst ev_3
            have hP9 := hP.sub (ws' := [(g, .inr (2, [.int 0, .int am_28, .ref m1, .ref m2, .ref m3, .ref m4, .ref m5, .ref m6, .ref m7, .int wc, .ref m8])), (m1, .inl (cJ, 500, .inr (.inl up_25))), (m2, .inl (cJ, 500, .inr (.inl dn_26))), (m3, .inl (cI, 500, .inl mu_27))]) [0, 1, 2, 3] rfl
            have hD9 := hD.sub (ws' := [(g, .inr (2, [.int 0, .int am_28, .ref m1, .ref m2, .ref m3, .ref m4, .ref m5, .ref m6, .ref m7, .int wc, .ref m8])), (m1, .inl (cJ, 500, .inr (.inl up_25))), (m2, .inl (cJ, 500, .inr (.inl dn_26))), (m3, .inl (cI, 500, .inl mu_27))]) [0, 1, 2, 3] (by decide) rfl
            have hz : (r_29, (0, up_25, dn_26, mu_27, am_28)) = f_M_times up dn mu am a b := by unfold f_M_times; rw [if_neg c_1, if_neg c_2, if_neg c_5, if_pos c_6, if_neg c_24]; exact congrArg (mk5 0) hw_30
            exact W.iret (v := r_29) hx hb hr (fun t ht hW => ⟨⟨r_29, (0, up_25, dn_26, mu_27, am_28), rfl, hz, wb_of ht hW hP9 hK hD9⟩, hS.F ht⟩) hS.2.2 d_M_times_132
          · skip
            refine lv_iconst (v := (-1)) hx hb d_M_times_96 (by decide) ?_
            refine lv_goto (tgt := 132) hx hb d_M_times_97 (by decide) ?_
            subst ev_4
            subst ev_3
            have hP9 := hP.sub (ws' := [(g, .inr (2, [.int 0, .int am, .ref m1, .ref m2, .ref m3, .ref m4, .ref m5, .ref m6, .ref m7, .int wc, .ref m8])), (m1, .inl (cJ, 500, .inr (.inl up))), (m2, .inl (cJ, 500, .inr (.inl dn))), (m3, .inl (cI, 500, .inl mu))]) [0, 1, 2, 3] rfl
            have hD9 := hD.sub (ws' := [(g, .inr (2, [.int 0, .int am, .ref m1, .ref m2, .ref m3, .ref m4, .ref m5, .ref m6, .ref m7, .int wc, .ref m8])), (m1, .inl (cJ, 500, .inr (.inl up))), (m2, .inl (cJ, 500, .inr (.inl dn))), (m3, .inl (cI, 500, .inl mu))]) [0, 1, 2, 3] (by decide) rfl
            have hz : ((-1), (0, up, dn, mu, am)) = f_M_times up dn mu am a b := by unfold f_M_times; rw [if_neg c_1, if_neg c_2, if_neg c_5, if_pos c_6, if_pos c_24]
            exact W.iret (v := (-1)) hx hb hr (fun t ht hW => ⟨⟨(-1), (0, up, dn, mu, am), rfl, hz, wb_of ht hW hP9 hK hD9⟩, hS.F ht⟩) hS.2.2 d_M_times_132
      · skip
        refine lv_iload hx hb d_M_times_43 (lv_at hl 0 rfl) ?_
        refine lv_goto (tgt := 88) hx hb d_M_times_45 (by decide) ?_
        refine lv_istore (lv' := [(5, .int v_4), (4, .int v_4), (3, .int v_3), (0, .ref g), (1, .int a), (2, .int b)]) hx hb d_M_times_88 hl (by decide) rfl (fun ls hl => ?_)
        refine lv_iload hx hb d_M_times_90 (lv_at hl 0 rfl) ?_
        refine lv_iconst (v := (-1)) hx hb d_M_times_92 (by decide) ?_
        refine lv_icmp_ne (tgt := 100) hx hb d_M_times_93 (by decide) (fun c_31 => ?_) (fun c_31 => ?_)
        · skip
          refine lv_aload_n hx hb d_M_times_100 rfl (lv_at hl 3 rfl) ?_
          refine lv_aload_n hx hb d_M_times_101 rfl (lv_at hl 3 rfl) ?_
          refine va_get (D := (dC, dI)) (ci := 2) (v := .ref m1) (C := R_M) (T := F_M) (N := 11) hx hb hg in_M hown hK hP 0 rfl rfl 2 (by decide) (hg _ wg_268) (fun _ h9 => h9) rfl d_M_times_102 ?_
          refine lv_iload_n hx hb d_M_times_105 rfl (lv_at hl 4 rfl) ?_
          refine va_lald hx hb hK hP 1 0 rfl rfl (mam_in c_1 ha) d_M_times_106 ?_
          refine lv_aload_n hx hb d_M_times_107 rfl (lv_at hl 3 rfl) ?_
          refine va_get (D := (dC, dI)) (ci := 2) (v := .ref m1) (C := R_M) (T := F_M) (N := 11) hx hb hg in_M hown hK hP 0 rfl rfl 2 (by decide) (hg _ wg_268) (fun _ h9 => h9) rfl d_M_times_108 ?_
          refine lv_iload_n hx hb d_M_times_111 rfl (lv_at hl 5 rfl) ?_
          refine va_lald hx hb hK hP 1 0 rfl rfl (mam_in c_2 ha) d_M_times_112 ?_
          refine lv_lmul hx hb d_M_times_113 ?_
          refine lv_aload_n hx hb d_M_times_114 rfl (lv_at hl 3 rfl) ?_
          refine va_get (D := (dC, dI)) (ci := 2) (v := .ref m2) (C := R_M) (T := F_M) (N := 11) hx hb hg in_M hown hK hP 0 rfl rfl 3 (by decide) (hg _ wg_269) (fun _ h9 => h9) rfl d_M_times_115 ?_
          refine lv_iload_n hx hb d_M_times_118 rfl (lv_at hl 4 rfl) ?_
          refine va_lald hx hb hK hP 2 0 rfl rfl (mam_in c_1 ha) d_M_times_119 ?_
          refine lv_aload_n hx hb d_M_times_120 rfl (lv_at hl 3 rfl) ?_
          refine va_get (D := (dC, dI)) (ci := 2) (v := .ref m2) (C := R_M) (T := F_M) (N := 11) hx hb hg in_M hown hK hP 0 rfl rfl 3 (by decide) (hg _ wg_269) (fun _ h9 => h9) rfl d_M_times_121 ?_
          refine lv_iload_n hx hb d_M_times_124 rfl (lv_at hl 5 rfl) ?_
          refine va_lald hx hb hK hP 2 0 rfl rfl (mam_in c_2 ha) d_M_times_125 ?_
          refine lv_lmul hx hb d_M_times_126 ?_
          refine lv_iload hx hb d_M_times_127 (lv_at hl 0 rfl) ?_
          have hPc := hP.sub (ws' := [(g, .inr (2, [.int 0, .int am, .ref m1, .ref m2, .ref m3, .ref m4, .ref m5, .ref m6, .ref m7, .int wc, .ref m8])), (m1, .inl (cJ, 500, .inr (.inl up))), (m2, .inl (cJ, 500, .inr (.inl dn))), (m3, .inl (cI, 500, .inl mu))]) [0, 1, 2, 3] rfl
          have hDc := hD.sub (ws' := [(g, .inr (2, [.int 0, .int am, .ref m1, .ref m2, .ref m3, .ref m4, .ref m5, .ref m6, .ref m7, .int wc, .ref m8])), (m1, .inl (cJ, 500, .inr (.inl up))), (m2, .inl (cJ, 500, .inr (.inl dn))), (m3, .inl (cI, 500, .inl mu))]) [0, 1, 2, 3] (by decide) rfl
          have hFc := va_free (wc := [(g, .inr (2, [.int 0, .int am, .ref m1, .ref m2, .ref m3, .ref m4, .ref m5, .ref m6, .ref m7, .int wc, .ref m8])), (m1, .inl (cJ, 500, .inr (.inl up))), (m2, .inl (cJ, 500, .inr (.inl dn))), (m3, .inl (cI, 500, .inl mu))]) hD hS hA [0, 1, 2, 3] rfl
          refine va_calli (va_runV (As := [.long ((up a.toNatClampNeg) * (up b.toNatClampNeg)), .long ((dn a.toNatClampNeg) * (dn b.toNatClampNeg)), .int v_4]) (rest := []) ⟨hx, hb, hml, hown, hg⟩ (k_M_make l dC dI cJ cI cT g m1 m2 m3 m4 m5 m6 m7 m8 0 am wc up dn mu ((up a.toNatClampNeg) * (up b.toNatClampNeg)) ((dn a.toNatClampNeg) * (dn b.toNatClampNeg)) v_4 _ ha0 ha (hq c_1 c_2)) (q_V 3 hg wg_300 wg_298 wg_299 wg_10 wg_15 rfl rfl (by decide +kernel) ⟨Nat.le_of_ble_eq_true rfl, Nat.le_of_ble_eq_true rfl⟩) ⟨wx_blind, va_recv hK hPc (ci := 2) (q0 := 0) rfl rfl, wx_pre (as := .ref g :: [.long ((up a.toNatClampNeg) * (up b.toNatClampNeg)), .long ((dn a.toNatClampNeg) * (dn b.toNatClampNeg)), .int v_4]) hPc hK hDc⟩ rfl rfl hl.1 rfl (lv_room (Nat.le_of_ble_eq_true rfl)) d_M_times_129 ⟨Nat.le_of_ble_eq_true rfl, Nat.le_of_ble_eq_true rfl⟩) hS (fun q _ h => hFc q h) hFc (fun r_36 u t H1 locs ht hvm hw_37 hB hz1 hk1 hS => ?_)
          obtain ⟨up_32, dn_33, mu_34, am_35⟩ := u
          obtain ⟨hP1, hK1, hD1⟩ := hB
          rw [ht] at hP1
          obtain ⟨hP, hD⟩ := va_join (wr := []) (w1 := [(g, .inr (2, [.int 0, .int am_35, .ref m1, .ref m2, .ref m3, .ref m4, .ref m5, .ref m6, .ref m7, .int wc, .ref m8])), (m1, .inl (cJ, 500, .inr (.inl up_32))), (m2, .inl (cJ, 500, .inr (.inl dn_33))), (m3, .inl (cI, 500, .inl mu_34))]) hP hD [0, 1, 2, 3] [] rfl rfl (by decide) (by decide) hk1 hFc hP1 hD1
          generalize H1 = H at hP hS ⊢
          have hP : va_P (dC, dI) classes [(g, .inr (2, [.int 0, .int am_35, .ref m1, .ref m2, .ref m3, .ref m4, .ref m5, .ref m6, .ref m7, .int wc, .ref m8])), (m1, .inl (cJ, 500, .inr (.inl up_32))), (m2, .inl (cJ, 500, .inr (.inl dn_33))), (m3, .inl (cI, 500, .inl mu_34))] H := hP
          have hD : va_D A [(g, .inr (2, [.int 0, .int am_35, .ref m1, .ref m2, .ref m3, .ref m4, .ref m5, .ref m6, .ref m7, .int wc, .ref m8])), (m1, .inl (cJ, 500, .inr (.inl up_32))), (m2, .inl (cJ, 500, .inr (.inl dn_33))), (m3, .inl (cI, 500, .inl mu_34))] := hD
          subst ev_4
          subst ev_3
          have hP9 := hP.sub (ws' := [(g, .inr (2, [.int 0, .int am_35, .ref m1, .ref m2, .ref m3, .ref m4, .ref m5, .ref m6, .ref m7, .int wc, .ref m8])), (m1, .inl (cJ, 500, .inr (.inl up_32))), (m2, .inl (cJ, 500, .inr (.inl dn_33))), (m3, .inl (cI, 500, .inl mu_34))]) [0, 1, 2, 3] rfl
          have hD9 := hD.sub (ws' := [(g, .inr (2, [.int 0, .int am_35, .ref m1, .ref m2, .ref m3, .ref m4, .ref m5, .ref m6, .ref m7, .int wc, .ref m8])), (m1, .inl (cJ, 500, .inr (.inl up_32))), (m2, .inl (cJ, 500, .inr (.inl dn_33))), (m3, .inl (cI, 500, .inl mu_34))]) [0, 1, 2, 3] (by decide) rfl
          have hz : (r_36, (0, up_32, dn_33, mu_34, am_35)) = f_M_times up dn mu am a b := by unfold f_M_times; rw [if_neg c_1, if_neg c_2, if_pos c_5, if_neg c_31]; exact congrArg (mk5 0) hw_37
          exact W.iret (v := r_36) hx hb hr (fun t ht hW => ⟨⟨r_36, (0, up_32, dn_33, mu_34, am_35), rfl, hz, wb_of ht hW hP9 hK hD9⟩, hS.F ht⟩) hS.2.2 d_M_times_132
        · skip
          refine lv_iconst (v := (-1)) hx hb d_M_times_96 (by decide) ?_
          refine lv_goto (tgt := 132) hx hb d_M_times_97 (by decide) ?_
          subst ev_4
          subst ev_3
          have hP9 := hP.sub (ws' := [(g, .inr (2, [.int 0, .int am, .ref m1, .ref m2, .ref m3, .ref m4, .ref m5, .ref m6, .ref m7, .int wc, .ref m8])), (m1, .inl (cJ, 500, .inr (.inl up))), (m2, .inl (cJ, 500, .inr (.inl dn))), (m3, .inl (cI, 500, .inl mu))]) [0, 1, 2, 3] rfl
          have hD9 := hD.sub (ws' := [(g, .inr (2, [.int 0, .int am, .ref m1, .ref m2, .ref m3, .ref m4, .ref m5, .ref m6, .ref m7, .int wc, .ref m8])), (m1, .inl (cJ, 500, .inr (.inl up))), (m2, .inl (cJ, 500, .inr (.inl dn))), (m3, .inl (cI, 500, .inl mu))]) [0, 1, 2, 3] (by decide) rfl
          have hz : ((-1), (0, up, dn, mu, am)) = f_M_times up dn mu am a b := by unfold f_M_times; rw [if_neg c_1, if_neg c_2, if_pos c_5, if_pos c_31]
          exact W.iret (v := (-1)) hx hb hr (fun t ht hW => ⟨⟨(-1), (0, up, dn, mu, am), rfl, hz, wb_of ht hW hP9 hK hD9⟩, hS.F ht⟩) hS.2.2 d_M_times_132
    · skip
      refine lv_bipush (v := (-3)) hx hb d_M_times_21 (by decide) ?_
      have hP9 := hP.sub (ws' := [(g, .inr (2, [.int 0, .int am, .ref m1, .ref m2, .ref m3, .ref m4, .ref m5, .ref m6, .ref m7, .int wc, .ref m8])), (m1, .inl (cJ, 500, .inr (.inl up))), (m2, .inl (cJ, 500, .inr (.inl dn))), (m3, .inl (cI, 500, .inl mu))]) [0, 1, 2, 3] rfl
      have hD9 := hD.sub (ws' := [(g, .inr (2, [.int 0, .int am, .ref m1, .ref m2, .ref m3, .ref m4, .ref m5, .ref m6, .ref m7, .int wc, .ref m8])), (m1, .inl (cJ, 500, .inr (.inl up))), (m2, .inl (cJ, 500, .inr (.inl dn))), (m3, .inl (cI, 500, .inl mu))]) [0, 1, 2, 3] (by decide) rfl
      have hz : ((-3), (0, up, dn, mu, am)) = f_M_times up dn mu am a b := by unfold f_M_times; rw [if_neg c_1, if_pos c_2]
      exact W.iret (v := (-3)) hx hb hr (fun t ht hW => ⟨⟨(-3), (0, up, dn, mu, am), rfl, hz, wb_of ht hW hP9 hK hD9⟩, hS.F ht⟩) hS.2.2 d_M_times_23
def f_M_over (up dn : Nat → Int64) (mu : Nat → Int32) (am : Int32) (a : Int32) (b : Int32) : Int32 × Int32 × (Nat → Int64) × (Nat → Int64) × (Nat → Int32) × Int32 := if (f_M_isAmount a am) = 0 then ((-3), (0, up, dn, mu, am)) else if (f_M_isAmount b am) = 0 then ((-3), (0, up, dn, mu, am)) else if (mu a.toNatClampNeg) = (mu b.toNatClampNeg) then if (up b.toNatClampNeg) = 0 then (0, (1, up, dn, mu, am)) else (mk5 0 (f_M_make up dn mu am ((up a.toNatClampNeg) * (dn b.toNatClampNeg)) ((dn a.toNatClampNeg) * (up b.toNatClampNeg)) 0)) else if (mu b.toNatClampNeg) = 0 then if (mu a.toNatClampNeg) = (-1) then ((-1), (0, up, dn, mu, am)) else if (up b.toNatClampNeg) = 0 then (0, (1, up, dn, mu, am)) else (mk5 0 (f_M_make up dn mu am ((up a.toNatClampNeg) * (dn b.toNatClampNeg)) ((dn a.toNatClampNeg) * (up b.toNatClampNeg)) (mu a.toNatClampNeg))) else if (mu a.toNatClampNeg) = 2 then if (mu b.toNatClampNeg) = 3 then if (up b.toNatClampNeg) = 0 then (0, (1, up, dn, mu, am)) else (mk5 0 (f_M_make up dn mu am ((up a.toNatClampNeg) * (dn b.toNatClampNeg)) ((dn a.toNatClampNeg) * (up b.toNatClampNeg)) 2)) else if (mu a.toNatClampNeg) = 1 then if (mu b.toNatClampNeg) = 4 then if (up b.toNatClampNeg) = 0 then (0, (1, up, dn, mu, am)) else (mk5 0 (f_M_make up dn mu am ((up a.toNatClampNeg) * (dn b.toNatClampNeg)) ((dn a.toNatClampNeg) * (up b.toNatClampNeg)) 1)) else ((-1), (0, up, dn, mu, am)) else ((-1), (0, up, dn, mu, am)) else if (mu a.toNatClampNeg) = 1 then if (mu b.toNatClampNeg) = 4 then if (up b.toNatClampNeg) = 0 then (0, (1, up, dn, mu, am)) else (mk5 0 (f_M_make up dn mu am ((up a.toNatClampNeg) * (dn b.toNatClampNeg)) ((dn a.toNatClampNeg) * (up b.toNatClampNeg)) 1)) else ((-1), (0, up, dn, mu, am)) else ((-1), (0, up, dn, mu, am))
set_option maxHeartbeats 4000000 in
set_option maxRecDepth 100000 in
theorem k_M_over (l : Launch) (dC : Nat → ClassId) (dI : Nat → Nat → Nat) (cJ cI cT : ClassId) (g m1 m2 m3 m4 m5 m6 m7 m8 : Nat) (cd am wc : Int32) (up dn : Nat → Int64) (mu : Nat → Int32) (a : Int32) (b : Int32) (sz : Nat) (ha0 : 0 ≤ am.toInt) (ha : am.toInt ≤ (500 : Nat)) (hq : ¬ f_M_isAmount a am = 0 → ¬ f_M_isAmount b am = 0 → ¬ up b.toNatClampNeg = 0 → ¬ dn a.toNatClampNeg * up b.toNatClampNeg = 0) : Met l y_M_over w_M_over ({ frames := 2, cells := 0, slots := 0, locals := 60 }) (va_Pc [.ref g, .int a, .int b] (wx dC dI cJ cI cT sz [(g, .inr (2, [.int cd, .int am, .ref m1, .ref m2, .ref m3, .ref m4, .ref m5, .ref m6, .ref m7, .int wc, .ref m8])), (m1, .inl (cJ, 500, .inr (.inl up))), (m2, .inl (cJ, 500, .inr (.inl dn))), (m3, .inl (cI, 500, .inl mu))])) (va_Qi (fun (r9 : Int32) (u9 : Int32 × (Nat → Int64) × (Nat → Int64) × (Nat → Int32) × Int32) => (r9, u9) = f_M_over up dn mu am a b) (fun u => wb dC dI cJ cI cT (va_A [(g, .inr (2, [.int cd, .int am, .ref m1, .ref m2, .ref m3, .ref m4, .ref m5, .ref m6, .ref m7, .int wc, .ref m8])), (m1, .inl (cJ, 500, .inr (.inl up))), (m2, .inl (cJ, 500, .inr (.inl dn))), (m3, .inl (cI, 500, .inl mu))] sz) [(g, .inr (2, [.int u.1, .int u.2.2.2.2, .ref m1, .ref m2, .ref m3, .ref m4, .ref m5, .ref m6, .ref m7, .int wc, .ref m8])), (m1, .inl (cJ, 500, .inr (.inl u.2.1))), (m2, .inl (cJ, 500, .inr (.inl u.2.2.1))), (m3, .inl (cI, 500, .inl u.2.2.2.1))]) (va_A [(g, .inr (2, [.int cd, .int am, .ref m1, .ref m2, .ref m3, .ref m4, .ref m5, .ref m6, .ref m7, .int wc, .ref m8])), (m1, .inl (cJ, 500, .inr (.inl up))), (m2, .inl (cJ, 500, .inr (.inl dn))), (m3, .inl (cI, 500, .inl mu))] sz)) 0 0 (va_A [(g, .inr (2, [.int cd, .int am, .ref m1, .ref m2, .ref m3, .ref m4, .ref m5, .ref m6, .ref m7, .int wc, .ref m8])), (m1, .inl (cJ, 500, .inr (.inl up))), (m2, .inl (cJ, 500, .inr (.inl dn))), (m3, .inl (cI, 500, .inl mu))] sz) := by
  refine Met.ofW (cc := c_M_over) (maxL := 6) (ret := (Option.some Jvm.ClassFile.FieldType.int)) (by decide) rfl ?_
  intro p e s m args below meth c s₁ B hml hv
  obtain ⟨rfl, hsz, hP, hK, hD0⟩ := hv
  have hx := B.exec
  have hb := B.bytes
  have hr := B.returns
  have hts := atoms_spec (ws := w_M_over) B.pre
  have hg : ∀ w ∈ WG, w.before _ s = true := fun w h => hts w (List.mem_cons_of_mem _ h)
  have hown : s.vm.findClass R_M = some m.cls := findClass_of_methodNamed B.named
  have hlocks := B.notSynchronized
  have hl := lv_entry ([.ref g, .int a, .int b]) (n := 6) (Nat.le_of_ble_eq_true rfl)
  rw [lg_entry_eq]
  generalize (lg_sl ([.ref g, .int a, .int b]) ++ List.replicate (6 - (lg_sl ([.ref g, .int a, .int b])).length) Slot.unset).toArray = ls at hl ⊢
  have hl : lv_has ls 6 [(0, .ref g), (1, .int a), (2, .int b)] := hl
  subst hsz
  have hD := hD0.self (sz := s.heap.size)
  generalize hAe : va_A [(g, .inr (2, [.int cd, .int am, .ref m1, .ref m2, .ref m3, .ref m4, .ref m5, .ref m6, .ref m7, .int wc, .ref m8])), (m1, .inl (cJ, 500, .inr (.inl up))), (m2, .inl (cJ, 500, .inr (.inl dn))), (m3, .inl (cI, 500, .inl mu))] s.heap.size = A at hD ⊢
  have hA : ∀ q : Nat, s.heap.size ≤ q → A q := fun q h => by rw [← hAe]; exact Or.inr h
  have hS : va_S A s.heap s.heap [] := va_S.rf
  have hP : va_P (dC, dI) classes [(g, .inr (2, [.int cd, .int am, .ref m1, .ref m2, .ref m3, .ref m4, .ref m5, .ref m6, .ref m7, .int wc, .ref m8])), (m1, .inl (cJ, 500, .inr (.inl up))), (m2, .inl (cJ, 500, .inr (.inl dn))), (m3, .inl (cI, 500, .inl mu))] s.heap := hP
  have hD : va_D A [(g, .inr (2, [.int cd, .int am, .ref m1, .ref m2, .ref m3, .ref m4, .ref m5, .ref m6, .ref m7, .int wc, .ref m8])), (m1, .inl (cJ, 500, .inr (.inl up))), (m2, .inl (cJ, 500, .inr (.inl dn))), (m3, .inl (cI, 500, .inl mu))] := hD
  skip
  refine lv_aload_n hx hb d_M_over_0 rfl (lv_at hl 0 rfl) ?_
  refine lv_iconst (v := 0) hx hb d_M_over_1 (by decide) ?_
  refine va_put (D := (dC, dI)) (ci := 2) (v := .int 0) (ty := .int) (C := R_M) (T := F_M) (N := 11) hx hb hg in_M tt_M tt_M_ok nn_M hown hK hP hD hS 0 rfl rfl 0 (by decide) (hg _ wg_266) (fun _ h9 => h9) rfl (by decide +kernel) rfl rfl (Nat.le_of_ble_eq_true rfl) d_M_over_2 (fun H locs hP hD hS => ?_)
  have hP : va_P (dC, dI) classes [(g, .inr (2, [.int 0, .int am, .ref m1, .ref m2, .ref m3, .ref m4, .ref m5, .ref m6, .ref m7, .int wc, .ref m8])), (m1, .inl (cJ, 500, .inr (.inl up))), (m2, .inl (cJ, 500, .inr (.inl dn))), (m3, .inl (cI, 500, .inl mu))] H := hP
  have hD : va_D A [(g, .inr (2, [.int 0, .int am, .ref m1, .ref m2, .ref m3, .ref m4, .ref m5, .ref m6, .ref m7, .int wc, .ref m8])), (m1, .inl (cJ, 500, .inr (.inl up))), (m2, .inl (cJ, 500, .inr (.inl dn))), (m3, .inl (cI, 500, .inl mu))] := hD
  refine lv_aload_n hx hb d_M_over_5 rfl (lv_at hl 0 rfl) ?_
  refine lv_iload_n hx hb d_M_over_6 rfl (lv_at hl 1 rfl) ?_
  have hPc := hP.sub (ws' := [(g, .inr (2, [.int 0, .int am, .ref m1, .ref m2, .ref m3, .ref m4, .ref m5, .ref m6, .ref m7, .int wc, .ref m8]))]) [0] rfl
  refine W.callV (W.runV (As := [.int a]) (rest := []) ⟨hx, hb, hml, hown, hg⟩ (k_M_isAmount l dC dI cJ cI cT g m1 m2 m3 m4 m5 m6 m7 m8 0 am wc a) (q_V 1 hg wg_312 wg_310 wg_311 wg_11 wg_15 rfl rfl (by decide +kernel) ⟨Nat.le_of_ble_eq_true rfl, Nat.le_of_ble_eq_true rfl⟩) ⟨wd_blind, va_recv hK hPc (ci := 2) (q0 := 0) rfl rfl, wd_pre (as := .ref g :: [.int a]) hPc hK⟩ rfl rfl hl.1 rfl (lv_room (Nat.le_of_ble_eq_true rfl)) d_M_over_7 ⟨Nat.le_of_ble_eq_true rfl, Nat.le_of_ble_eq_true rfl⟩) ?_
  refine W.eq (g2 := F0 m 10 ls (.int (f_M_isAmount a am) :: [])) rfl ?_
  refine lv_if_eq (tgt := 21) hx hb d_M_over_10 (by decide) (fun c_1 => ?_) (fun c_1 => ?_)
  · skip
    refine lv_bipush (v := (-3)) hx hb d_M_over_21 (by decide) ?_
    have hP9 := hP.sub (ws' := [(g, .inr (2, [.int 0, .int am, .ref m1, .ref m2, .ref m3, .ref m4, .ref m5, .ref m6, .ref m7, .int wc, .ref m8])), (m1, .inl (cJ, 500, .inr (.inl up))), (m2, .inl (cJ, 500, .inr (.inl dn))), (m3, .inl (cI, 500, .inl mu))]) [0, 1, 2, 3] rfl
    have hD9 := hD.sub (ws' := [(g, .inr (2, [.int 0, .int am, .ref m1, .ref m2, .ref m3, .ref m4, .ref m5, .ref m6, .ref m7, .int wc, .ref m8])), (m1, .inl (cJ, 500, .inr (.inl up))), (m2, .inl (cJ, 500, .inr (.inl dn))), (m3, .inl (cI, 500, .inl mu))]) [0, 1, 2, 3] (by decide) rfl
    have hz : ((-3), (0, up, dn, mu, am)) = f_M_over up dn mu am a b := by unfold f_M_over; rw [if_pos c_1]
    exact W.iret (v := (-3)) hx hb hr (fun t ht hW => ⟨⟨(-3), (0, up, dn, mu, am), rfl, hz, wb_of ht hW hP9 hK hD9⟩, hS.F ht⟩) hS.2.2 d_M_over_23
  · skip
    refine lv_aload_n hx hb d_M_over_13 rfl (lv_at hl 0 rfl) ?_
    refine lv_iload_n hx hb d_M_over_14 rfl (lv_at hl 2 rfl) ?_
    have hPc := hP.sub (ws' := [(g, .inr (2, [.int 0, .int am, .ref m1, .ref m2, .ref m3, .ref m4, .ref m5, .ref m6, .ref m7, .int wc, .ref m8]))]) [0] rfl
    refine W.callV (W.runV (As := [.int b]) (rest := []) ⟨hx, hb, hml, hown, hg⟩ (k_M_isAmount l dC dI cJ cI cT g m1 m2 m3 m4 m5 m6 m7 m8 0 am wc b) (q_V 1 hg wg_312 wg_310 wg_311 wg_11 wg_15 rfl rfl (by decide +kernel) ⟨Nat.le_of_ble_eq_true rfl, Nat.le_of_ble_eq_true rfl⟩) ⟨wd_blind, va_recv hK hPc (ci := 2) (q0 := 0) rfl rfl, wd_pre (as := .ref g :: [.int b]) hPc hK⟩ rfl rfl hl.1 rfl (lv_room (Nat.le_of_ble_eq_true rfl)) d_M_over_15 ⟨Nat.le_of_ble_eq_true rfl, Nat.le_of_ble_eq_true rfl⟩) ?_
    refine W.eq (g2 := F0 m 18 ls (.int (f_M_isAmount b am) :: [])) rfl ?_
    refine lv_if_ne (tgt := 24) hx hb d_M_over_18 (by decide) (fun c_2 => ?_) (fun c_2 => ?_)
    · skip
      refine lv_aload_n hx hb d_M_over_24 rfl (lv_at hl 0 rfl) ?_
      refine va_get (D := (dC, dI)) (ci := 2) (v := .ref m3) (C := R_M) (T := F_M) (N := 11) hx hb hg in_M hown hK hP 0 rfl rfl 4 (by decide) (hg _ wg_270) (fun _ h9 => h9) rfl d_M_over_25 ?_
      refine lv_iload_n hx hb d_M_over_28 rfl (lv_at hl 1 rfl) ?_
      refine va_iald hx hb hK hP 3 1 rfl rfl (mam_in c_1 ha) d_M_over_29 ?_
      refine lv_topi (fun v_3 ev_3 => ?_)
      refine lv_istore_n (lv' := [(3, .int v_3), (0, .ref g), (1, .int a), (2, .int b)]) hx hb d_M_over_30 rfl hl (by decide) rfl (fun ls hl => ?_)
      refine lv_aload_n hx hb d_M_over_31 rfl (lv_at hl 1 rfl) ?_
      refine va_get (D := (dC, dI)) (ci := 2) (v := .ref m3) (C := R_M) (T := F_M) (N := 11) hx hb hg in_M hown hK hP 0 rfl rfl 4 (by decide) (hg _ wg_270) (fun _ h9 => h9) rfl d_M_over_32 ?_
      refine lv_iload_n hx hb d_M_over_35 rfl (lv_at hl 3 rfl) ?_
      refine va_iald hx hb hK hP 3 1 rfl rfl (mam_in c_2 ha) d_M_over_36 ?_
      refine lv_topi (fun v_4 ev_4 => ?_)
      refine lv_istore (lv' := [(4, .int v_4), (3, .int v_3), (0, .ref g), (1, .int a), (2, .int b)]) hx hb d_M_over_37 hl (by decide) rfl (fun ls hl => ?_)
      refine lv_iload_n hx hb d_M_over_39 rfl (lv_at hl 1 rfl) ?_
      refine lv_iload hx hb d_M_over_40 (lv_at hl 0 rfl) ?_
      refine lv_icmp_ne (tgt := 49) hx hb d_M_over_42 (by decide) (fun c_5 => ?_) (fun c_5 => ?_)
      · skip
        refine lv_iload hx hb d_M_over_49 (lv_at hl 0 rfl) ?_
        refine lv_if_ne (tgt := 58) hx hb d_M_over_51 (by decide) (fun c_6 => ?_) (fun c_6 => ?_)
        · skip
          refine lv_iload_n hx hb d_M_over_58 rfl (lv_at hl 1 rfl) ?_
          refine lv_iconst (v := 2) hx hb d_M_over_59 (by decide) ?_
          refine lv_icmp_ne (tgt := 73) hx hb d_M_over_60 (by decide) (fun c_7 => ?_) (fun c_7 => ?_)
          · skip
            refine lv_iload_n hx hb d_M_over_73 rfl (lv_at hl 1 rfl) ?_
            refine lv_iconst (v := 1) hx hb d_M_over_74 (by decide) ?_
            refine lv_icmp_ne (tgt := 88) hx hb d_M_over_75 (by decide) (fun c_8 => ?_) (fun c_8 => ?_)
            · skip
              refine lv_iconst (v := (-1)) hx hb d_M_over_88 (by decide) ?_
              refine lv_istore (lv' := [(5, .int (-1)), (4, .int v_4), (3, .int v_3), (0, .ref g), (1, .int a), (2, .int b)]) hx hb d_M_over_89 hl (by decide) rfl (fun ls hl => ?_)
              refine lv_iload hx hb d_M_over_91 (lv_at hl 0 rfl) ?_
              refine lv_iconst (v := (-1)) hx hb d_M_over_93 (by decide) ?_
              refine lv_icmp_ne (tgt := 99) hx hb d_M_over_94 (by decide) (fun c_9 => ?_) (fun c_9 => ?_)
              · skip
                exact absurd c_9 (by decide)
              · skip
                refine lv_iconst (v := (-1)) hx hb d_M_over_97 (by decide) ?_
                subst ev_4
                subst ev_3
                have hP9 := hP.sub (ws' := [(g, .inr (2, [.int 0, .int am, .ref m1, .ref m2, .ref m3, .ref m4, .ref m5, .ref m6, .ref m7, .int wc, .ref m8])), (m1, .inl (cJ, 500, .inr (.inl up))), (m2, .inl (cJ, 500, .inr (.inl dn))), (m3, .inl (cI, 500, .inl mu))]) [0, 1, 2, 3] rfl
                have hD9 := hD.sub (ws' := [(g, .inr (2, [.int 0, .int am, .ref m1, .ref m2, .ref m3, .ref m4, .ref m5, .ref m6, .ref m7, .int wc, .ref m8])), (m1, .inl (cJ, 500, .inr (.inl up))), (m2, .inl (cJ, 500, .inr (.inl dn))), (m3, .inl (cI, 500, .inl mu))]) [0, 1, 2, 3] (by decide) rfl
                have hz : ((-1), (0, up, dn, mu, am)) = f_M_over up dn mu am a b := by unfold f_M_over; rw [if_neg c_1, if_neg c_2, if_neg c_5, if_neg c_6, if_neg c_7, if_neg c_8]
                exact W.iret (v := (-1)) hx hb hr (fun t ht hW => ⟨⟨(-1), (0, up, dn, mu, am), rfl, hz, wb_of ht hW hP9 hK hD9⟩, hS.F ht⟩) hS.2.2 d_M_over_98
            · skip
              refine lv_iload hx hb d_M_over_78 (lv_at hl 0 rfl) ?_
              refine lv_iconst (v := 4) hx hb d_M_over_80 (by decide) ?_
              refine lv_icmp_ne (tgt := 88) hx hb d_M_over_81 (by decide) (fun c_10 => ?_) (fun c_10 => ?_)
              · skip
                refine lv_iconst (v := (-1)) hx hb d_M_over_88 (by decide) ?_
                refine lv_istore (lv' := [(5, .int (-1)), (4, .int v_4), (3, .int v_3), (0, .ref g), (1, .int a), (2, .int b)]) hx hb d_M_over_89 hl (by decide) rfl (fun ls hl => ?_)
                refine lv_iload hx hb d_M_over_91 (lv_at hl 0 rfl) ?_
                refine lv_iconst (v := (-1)) hx hb d_M_over_93 (by decide) ?_
                refine lv_icmp_ne (tgt := 99) hx hb d_M_over_94 (by decide) (fun c_11 => ?_) (fun c_11 => ?_)
                · skip
                  exact absurd c_11 (by decide)
                · skip
                  refine lv_iconst (v := (-1)) hx hb d_M_over_97 (by decide) ?_
                  subst ev_4
                  subst ev_3
                  have hP9 := hP.sub (ws' := [(g, .inr (2, [.int 0, .int am, .ref m1, .ref m2, .ref m3, .ref m4, .ref m5, .ref m6, .ref m7, .int wc, .ref m8])), (m1, .inl (cJ, 500, .inr (.inl up))), (m2, .inl (cJ, 500, .inr (.inl dn))), (m3, .inl (cI, 500, .inl mu))]) [0, 1, 2, 3] rfl
                  have hD9 := hD.sub (ws' := [(g, .inr (2, [.int 0, .int am, .ref m1, .ref m2, .ref m3, .ref m4, .ref m5, .ref m6, .ref m7, .int wc, .ref m8])), (m1, .inl (cJ, 500, .inr (.inl up))), (m2, .inl (cJ, 500, .inr (.inl dn))), (m3, .inl (cI, 500, .inl mu))]) [0, 1, 2, 3] (by decide) rfl
                  have hz : ((-1), (0, up, dn, mu, am)) = f_M_over up dn mu am a b := by unfold f_M_over; rw [if_neg c_1, if_neg c_2, if_neg c_5, if_neg c_6, if_neg c_7, if_pos c_8, if_neg c_10]
                  exact W.iret (v := (-1)) hx hb hr (fun t ht hW => ⟨⟨(-1), (0, up, dn, mu, am), rfl, hz, wb_of ht hW hP9 hK hD9⟩, hS.F ht⟩) hS.2.2 d_M_over_98
              · skip
                refine lv_iconst (v := 1) hx hb d_M_over_84 (by decide) ?_
                refine lv_goto (tgt := 89) hx hb d_M_over_85 (by decide) ?_
                refine lv_istore (lv' := [(5, .int 1), (4, .int v_4), (3, .int v_3), (0, .ref g), (1, .int a), (2, .int b)]) hx hb d_M_over_89 hl (by decide) rfl (fun ls hl => ?_)
                refine lv_iload hx hb d_M_over_91 (lv_at hl 0 rfl) ?_
                refine lv_iconst (v := (-1)) hx hb d_M_over_93 (by decide) ?_
                refine lv_icmp_ne (tgt := 99) hx hb d_M_over_94 (by decide) (fun c_12 => ?_) (fun c_12 => ?_)
                · skip
                  refine lv_aload_n hx hb d_M_over_99 rfl (lv_at hl 3 rfl) ?_
                  refine lv_aload_n hx hb d_M_over_100 rfl (lv_at hl 3 rfl) ?_
                  refine va_get (D := (dC, dI)) (ci := 2) (v := .ref m1) (C := R_M) (T := F_M) (N := 11) hx hb hg in_M hown hK hP 0 rfl rfl 2 (by decide) (hg _ wg_268) (fun _ h9 => h9) rfl d_M_over_101 ?_
                  refine lv_iload_n hx hb d_M_over_104 rfl (lv_at hl 5 rfl) ?_
                  refine va_lald hx hb hK hP 1 0 rfl rfl (mam_in c_2 ha) d_M_over_105 ?_
                  refine lv_lconst (v := 0) hx hb d_M_over_106 (by decide) ?_
                  refine W.lcmp hx hb d_M_over_107 ?_
                  refine lv_if_ne (tgt := 115) hx hb d_M_over_108 (by decide) (fun c_13 => ?_) (fun c_13 => ?_)
                  · skip
                    rw [lg_cmp_eq] at c_13
                    refine lv_iconst (v := 0) hx hb d_M_over_115 (by decide) ?_
                    refine va_put (D := (dC, dI)) (ci := 2) (v := .int 0) (ty := .int) (C := R_M) (T := F_M) (N := 11) hx hb hg in_M tt_M tt_M_ok nn_M hown hK hP hD hS 0 rfl rfl 0 (by decide) (hg _ wg_266) (fun _ h9 => h9) rfl (by decide +kernel) rfl rfl (Nat.le_of_ble_eq_true rfl) d_M_over_116 (fun H locs hP hD hS => ?_)
                    have hP : va_P (dC, dI) classes [(g, .inr (2, [.int 0, .int am, .ref m1, .ref m2, .ref m3, .ref m4, .ref m5, .ref m6, .ref m7, .int wc, .ref m8])), (m1, .inl (cJ, 500, .inr (.inl up))), (m2, .inl (cJ, 500, .inr (.inl dn))), (m3, .inl (cI, 500, .inl mu))] H := hP
                    have hD : va_D A [(g, .inr (2, [.int 0, .int am, .ref m1, .ref m2, .ref m3, .ref m4, .ref m5, .ref m6, .ref m7, .int wc, .ref m8])), (m1, .inl (cJ, 500, .inr (.inl up))), (m2, .inl (cJ, 500, .inr (.inl dn))), (m3, .inl (cI, 500, .inl mu))] := hD
                    refine lv_aload_n hx hb d_M_over_119 rfl (lv_at hl 3 rfl) ?_
                    refine va_get (D := (dC, dI)) (ci := 2) (v := .int 0) (C := R_M) (T := F_M) (N := 11) hx hb hg in_M hown hK hP 0 rfl rfl 0 (by decide) (hg _ wg_266) (fun _ h9 => h9) rfl d_M_over_120 ?_
                    refine lv_if_le (tgt := 130) hx hb d_M_over_123 (by decide) (fun c_14 => ?_) (fun c_14 => ?_)
                    · skip
                      refine lv_aload_n hx hb d_M_over_130 rfl (lv_at hl 3 rfl) ?_
                      refine lv_aload_n hx hb d_M_over_131 rfl (lv_at hl 3 rfl) ?_
                      refine va_get (D := (dC, dI)) (ci := 2) (v := .ref m1) (C := R_M) (T := F_M) (N := 11) hx hb hg in_M hown hK hP 0 rfl rfl 2 (by decide) (hg _ wg_268) (fun _ h9 => h9) rfl d_M_over_132 ?_
                      refine lv_iload_n hx hb d_M_over_135 rfl (lv_at hl 4 rfl) ?_
                      refine va_lald hx hb hK hP 1 0 rfl rfl (mam_in c_1 ha) d_M_over_136 ?_
                      refine lv_aload_n hx hb d_M_over_137 rfl (lv_at hl 3 rfl) ?_
                      refine va_get (D := (dC, dI)) (ci := 2) (v := .ref m2) (C := R_M) (T := F_M) (N := 11) hx hb hg in_M hown hK hP 0 rfl rfl 3 (by decide) (hg _ wg_269) (fun _ h9 => h9) rfl d_M_over_138 ?_
                      refine lv_iload_n hx hb d_M_over_141 rfl (lv_at hl 5 rfl) ?_
                      refine va_lald hx hb hK hP 2 0 rfl rfl (mam_in c_2 ha) d_M_over_142 ?_
                      refine lv_lmul hx hb d_M_over_143 ?_
                      refine lv_aload_n hx hb d_M_over_144 rfl (lv_at hl 3 rfl) ?_
                      refine va_get (D := (dC, dI)) (ci := 2) (v := .ref m2) (C := R_M) (T := F_M) (N := 11) hx hb hg in_M hown hK hP 0 rfl rfl 3 (by decide) (hg _ wg_269) (fun _ h9 => h9) rfl d_M_over_145 ?_
                      refine lv_iload_n hx hb d_M_over_148 rfl (lv_at hl 4 rfl) ?_
                      refine va_lald hx hb hK hP 2 0 rfl rfl (mam_in c_1 ha) d_M_over_149 ?_
                      refine lv_aload_n hx hb d_M_over_150 rfl (lv_at hl 3 rfl) ?_
                      refine va_get (D := (dC, dI)) (ci := 2) (v := .ref m1) (C := R_M) (T := F_M) (N := 11) hx hb hg in_M hown hK hP 0 rfl rfl 2 (by decide) (hg _ wg_268) (fun _ h9 => h9) rfl d_M_over_151 ?_
                      refine lv_iload_n hx hb d_M_over_154 rfl (lv_at hl 5 rfl) ?_
                      refine va_lald hx hb hK hP 1 0 rfl rfl (mam_in c_2 ha) d_M_over_155 ?_
                      refine lv_lmul hx hb d_M_over_156 ?_
                      refine lv_iload hx hb d_M_over_157 (lv_at hl 0 rfl) ?_
                      have hPc := hP.sub (ws' := [(g, .inr (2, [.int 0, .int am, .ref m1, .ref m2, .ref m3, .ref m4, .ref m5, .ref m6, .ref m7, .int wc, .ref m8])), (m1, .inl (cJ, 500, .inr (.inl up))), (m2, .inl (cJ, 500, .inr (.inl dn))), (m3, .inl (cI, 500, .inl mu))]) [0, 1, 2, 3] rfl
                      have hDc := hD.sub (ws' := [(g, .inr (2, [.int 0, .int am, .ref m1, .ref m2, .ref m3, .ref m4, .ref m5, .ref m6, .ref m7, .int wc, .ref m8])), (m1, .inl (cJ, 500, .inr (.inl up))), (m2, .inl (cJ, 500, .inr (.inl dn))), (m3, .inl (cI, 500, .inl mu))]) [0, 1, 2, 3] (by decide) rfl
                      have hFc := va_free (wc := [(g, .inr (2, [.int 0, .int am, .ref m1, .ref m2, .ref m3, .ref m4, .ref m5, .ref m6, .ref m7, .int wc, .ref m8])), (m1, .inl (cJ, 500, .inr (.inl up))), (m2, .inl (cJ, 500, .inr (.inl dn))), (m3, .inl (cI, 500, .inl mu))]) hD hS hA [0, 1, 2, 3] rfl
                      refine va_calli (va_runV (As := [.long ((up a.toNatClampNeg) * (dn b.toNatClampNeg)), .long ((dn a.toNatClampNeg) * (up b.toNatClampNeg)), .int 1]) (rest := []) ⟨hx, hb, hml, hown, hg⟩ (k_M_make l dC dI cJ cI cT g m1 m2 m3 m4 m5 m6 m7 m8 0 am wc up dn mu ((up a.toNatClampNeg) * (dn b.toNatClampNeg)) ((dn a.toNatClampNeg) * (up b.toNatClampNeg)) 1 _ ha0 ha (hq c_1 c_2 c_13)) (q_V 3 hg wg_300 wg_298 wg_299 wg_10 wg_15 rfl rfl (by decide +kernel) ⟨Nat.le_of_ble_eq_true rfl, Nat.le_of_ble_eq_true rfl⟩) ⟨wx_blind, va_recv hK hPc (ci := 2) (q0 := 0) rfl rfl, wx_pre (as := .ref g :: [.long ((up a.toNatClampNeg) * (dn b.toNatClampNeg)), .long ((dn a.toNatClampNeg) * (up b.toNatClampNeg)), .int 1]) hPc hK hDc⟩ rfl rfl hl.1 rfl (lv_room (Nat.le_of_ble_eq_true rfl)) d_M_over_159 ⟨Nat.le_of_ble_eq_true rfl, Nat.le_of_ble_eq_true rfl⟩) hS (fun q _ h => hFc q h) hFc (fun r_19 u t H1 locs ht hvm hw_20 hB hz1 hk1 hS => ?_)
                      obtain ⟨up_15, dn_16, mu_17, am_18⟩ := u
                      obtain ⟨hP1, hK1, hD1⟩ := hB
                      rw [ht] at hP1
                      obtain ⟨hP, hD⟩ := va_join (wr := []) (w1 := [(g, .inr (2, [.int 0, .int am_18, .ref m1, .ref m2, .ref m3, .ref m4, .ref m5, .ref m6, .ref m7, .int wc, .ref m8])), (m1, .inl (cJ, 500, .inr (.inl up_15))), (m2, .inl (cJ, 500, .inr (.inl dn_16))), (m3, .inl (cI, 500, .inl mu_17))]) hP hD [0, 1, 2, 3] [] rfl rfl (by decide) (by decide) hk1 hFc hP1 hD1
                      generalize H1 = H at hP hS ⊢
                      have hP : va_P (dC, dI) classes [(g, .inr (2, [.int 0, .int am_18, .ref m1, .ref m2, .ref m3, .ref m4, .ref m5, .ref m6, .ref m7, .int wc, .ref m8])), (m1, .inl (cJ, 500, .inr (.inl up_15))), (m2, .inl (cJ, 500, .inr (.inl dn_16))), (m3, .inl (cI, 500, .inl mu_17))] H := hP
                      have hD : va_D A [(g, .inr (2, [.int 0, .int am_18, .ref m1, .ref m2, .ref m3, .ref m4, .ref m5, .ref m6, .ref m7, .int wc, .ref m8])), (m1, .inl (cJ, 500, .inr (.inl up_15))), (m2, .inl (cJ, 500, .inr (.inl dn_16))), (m3, .inl (cI, 500, .inl mu_17))] := hD
                      subst ev_4
                      subst ev_3
                      have hP9 := hP.sub (ws' := [(g, .inr (2, [.int 0, .int am_18, .ref m1, .ref m2, .ref m3, .ref m4, .ref m5, .ref m6, .ref m7, .int wc, .ref m8])), (m1, .inl (cJ, 500, .inr (.inl up_15))), (m2, .inl (cJ, 500, .inr (.inl dn_16))), (m3, .inl (cI, 500, .inl mu_17))]) [0, 1, 2, 3] rfl
                      have hD9 := hD.sub (ws' := [(g, .inr (2, [.int 0, .int am_18, .ref m1, .ref m2, .ref m3, .ref m4, .ref m5, .ref m6, .ref m7, .int wc, .ref m8])), (m1, .inl (cJ, 500, .inr (.inl up_15))), (m2, .inl (cJ, 500, .inr (.inl dn_16))), (m3, .inl (cI, 500, .inl mu_17))]) [0, 1, 2, 3] (by decide) rfl
                      have hz : (r_19, (0, up_15, dn_16, mu_17, am_18)) = f_M_over up dn mu am a b := by unfold f_M_over; rw [if_neg c_1, if_neg c_2, if_neg c_5, if_neg c_6, if_neg c_7, if_pos c_8, if_pos c_10, if_neg c_13]; exact congrArg (mk5 0) hw_20
                      exact W.iret (v := r_19) hx hb hr (fun t ht hW => ⟨⟨r_19, (0, up_15, dn_16, mu_17, am_18), rfl, hz, wb_of ht hW hP9 hK hD9⟩, hS.F ht⟩) hS.2.2 d_M_over_162
                    · skip
                      exact absurd (by decide) c_14
                  · skip
                    rw [lg_cmp_eq] at c_13
                    refine lv_iconst (v := 1) hx hb d_M_over_111 (by decide) ?_
                    refine lv_goto (tgt := 116) hx hb d_M_over_112 (by decide) ?_
                    refine va_put (D := (dC, dI)) (ci := 2) (v := .int 1) (ty := .int) (C := R_M) (T := F_M) (N := 11) hx hb hg in_M tt_M tt_M_ok nn_M hown hK hP hD hS 0 rfl rfl 0 (by decide) (hg _ wg_266) (fun _ h9 => h9) rfl (by decide +kernel) rfl rfl (Nat.le_of_ble_eq_true rfl) d_M_over_116 (fun H locs hP hD hS => ?_)
                    have hP : va_P (dC, dI) classes [(g, .inr (2, [.int 1, .int am, .ref m1, .ref m2, .ref m3, .ref m4, .ref m5, .ref m6, .ref m7, .int wc, .ref m8])), (m1, .inl (cJ, 500, .inr (.inl up))), (m2, .inl (cJ, 500, .inr (.inl dn))), (m3, .inl (cI, 500, .inl mu))] H := hP
                    have hD : va_D A [(g, .inr (2, [.int 1, .int am, .ref m1, .ref m2, .ref m3, .ref m4, .ref m5, .ref m6, .ref m7, .int wc, .ref m8])), (m1, .inl (cJ, 500, .inr (.inl up))), (m2, .inl (cJ, 500, .inr (.inl dn))), (m3, .inl (cI, 500, .inl mu))] := hD
                    refine lv_aload_n hx hb d_M_over_119 rfl (lv_at hl 3 rfl) ?_
                    refine va_get (D := (dC, dI)) (ci := 2) (v := .int 1) (C := R_M) (T := F_M) (N := 11) hx hb hg in_M hown hK hP 0 rfl rfl 0 (by decide) (hg _ wg_266) (fun _ h9 => h9) rfl d_M_over_120 ?_
                    refine lv_if_le (tgt := 130) hx hb d_M_over_123 (by decide) (fun c_21 => ?_) (fun c_21 => ?_)
                    · skip
                      exact absurd c_21 (by decide)
                    · skip
                      refine lv_iconst (v := 0) hx hb d_M_over_126 (by decide) ?_
                      refine lv_goto (tgt := 162) hx hb d_M_over_127 (by decide) ?_
                      subst ev_4
                      subst ev_3
                      have hP9 := hP.sub (ws' := [(g, .inr (2, [.int 1, .int am, .ref m1, .ref m2, .ref m3, .ref m4, .ref m5, .ref m6, .ref m7, .int wc, .ref m8])), (m1, .inl (cJ, 500, .inr (.inl up))), (m2, .inl (cJ, 500, .inr (.inl dn))), (m3, .inl (cI, 500, .inl mu))]) [0, 1, 2, 3] rfl
                      have hD9 := hD.sub (ws' := [(g, .inr (2, [.int 1, .int am, .ref m1, .ref m2, .ref m3, .ref m4, .ref m5, .ref m6, .ref m7, .int wc, .ref m8])), (m1, .inl (cJ, 500, .inr (.inl up))), (m2, .inl (cJ, 500, .inr (.inl dn))), (m3, .inl (cI, 500, .inl mu))]) [0, 1, 2, 3] (by decide) rfl
                      have hz : (0, (1, up, dn, mu, am)) = f_M_over up dn mu am a b := by unfold f_M_over; rw [if_neg c_1, if_neg c_2, if_neg c_5, if_neg c_6, if_neg c_7, if_pos c_8, if_pos c_10, if_pos c_13]
                      exact W.iret (v := 0) hx hb hr (fun t ht hW => ⟨⟨0, (1, up, dn, mu, am), rfl, hz, wb_of ht hW hP9 hK hD9⟩, hS.F ht⟩) hS.2.2 d_M_over_162
                · skip
                  exact absurd c_12 (by decide)
          · skip
            refine lv_iload hx hb d_M_over_63 (lv_at hl 0 rfl) ?_
            refine lv_iconst (v := 3) hx hb d_M_over_65 (by decide) ?_
            refine lv_icmp_ne (tgt := 73) hx hb d_M_over_66 (by decide) (fun c_22 => ?_) (fun c_22 => ?_)
            · skip
              refine lv_iload_n hx hb d_M_over_73 rfl (lv_at hl 1 rfl) ?_
              refine lv_iconst (v := 1) hx hb d_M_over_74 (by decide) ?_
              refine lv_icmp_ne (tgt := 88) hx hb d_M_over_75 (by decide) (fun c_23 => ?_) (fun c_23 => ?_)
              · skip
                refine lv_iconst (v := (-1)) hx hb d_M_over_88 (by decide) ?_
                refine lv_istore (lv' := [(5, .int (-1)), (4, .int v_4), (3, .int v_3), (0, .ref g), (1, .int a), (2, .int b)]) hx hb d_M_over_89 hl (by decide) rfl (fun ls hl => ?_)
                refine lv_iload hx hb d_M_over_91 (lv_at hl 0 rfl) ?_
                refine lv_iconst (v := (-1)) hx hb d_M_over_93 (by decide) ?_
                refine lv_icmp_ne (tgt := 99) hx hb d_M_over_94 (by decide) (fun c_24 => ?_) (fun c_24 => ?_)
                · skip
                  exact absurd c_24 (by decide)
                · skip
                  refine lv_iconst (v := (-1)) hx hb d_M_over_97 (by decide) ?_
                  subst ev_4
                  subst ev_3
                  have hP9 := hP.sub (ws' := [(g, .inr (2, [.int 0, .int am, .ref m1, .ref m2, .ref m3, .ref m4, .ref m5, .ref m6, .ref m7, .int wc, .ref m8])), (m1, .inl (cJ, 500, .inr (.inl up))), (m2, .inl (cJ, 500, .inr (.inl dn))), (m3, .inl (cI, 500, .inl mu))]) [0, 1, 2, 3] rfl
                  have hD9 := hD.sub (ws' := [(g, .inr (2, [.int 0, .int am, .ref m1, .ref m2, .ref m3, .ref m4, .ref m5, .ref m6, .ref m7, .int wc, .ref m8])), (m1, .inl (cJ, 500, .inr (.inl up))), (m2, .inl (cJ, 500, .inr (.inl dn))), (m3, .inl (cI, 500, .inl mu))]) [0, 1, 2, 3] (by decide) rfl
                  have hz : ((-1), (0, up, dn, mu, am)) = f_M_over up dn mu am a b := by unfold f_M_over; rw [if_neg c_1, if_neg c_2, if_neg c_5, if_neg c_6, if_pos c_7, if_neg c_22, if_neg c_23]
                  exact W.iret (v := (-1)) hx hb hr (fun t ht hW => ⟨⟨(-1), (0, up, dn, mu, am), rfl, hz, wb_of ht hW hP9 hK hD9⟩, hS.F ht⟩) hS.2.2 d_M_over_98
              · skip
                refine lv_iload hx hb d_M_over_78 (lv_at hl 0 rfl) ?_
                refine lv_iconst (v := 4) hx hb d_M_over_80 (by decide) ?_
                refine lv_icmp_ne (tgt := 88) hx hb d_M_over_81 (by decide) (fun c_25 => ?_) (fun c_25 => ?_)
                · skip
                  refine lv_iconst (v := (-1)) hx hb d_M_over_88 (by decide) ?_
                  refine lv_istore (lv' := [(5, .int (-1)), (4, .int v_4), (3, .int v_3), (0, .ref g), (1, .int a), (2, .int b)]) hx hb d_M_over_89 hl (by decide) rfl (fun ls hl => ?_)
                  refine lv_iload hx hb d_M_over_91 (lv_at hl 0 rfl) ?_
                  refine lv_iconst (v := (-1)) hx hb d_M_over_93 (by decide) ?_
                  refine lv_icmp_ne (tgt := 99) hx hb d_M_over_94 (by decide) (fun c_26 => ?_) (fun c_26 => ?_)
                  · skip
                    exact absurd c_26 (by decide)
                  · skip
                    refine lv_iconst (v := (-1)) hx hb d_M_over_97 (by decide) ?_
                    subst ev_4
                    subst ev_3
                    have hP9 := hP.sub (ws' := [(g, .inr (2, [.int 0, .int am, .ref m1, .ref m2, .ref m3, .ref m4, .ref m5, .ref m6, .ref m7, .int wc, .ref m8])), (m1, .inl (cJ, 500, .inr (.inl up))), (m2, .inl (cJ, 500, .inr (.inl dn))), (m3, .inl (cI, 500, .inl mu))]) [0, 1, 2, 3] rfl
                    have hD9 := hD.sub (ws' := [(g, .inr (2, [.int 0, .int am, .ref m1, .ref m2, .ref m3, .ref m4, .ref m5, .ref m6, .ref m7, .int wc, .ref m8])), (m1, .inl (cJ, 500, .inr (.inl up))), (m2, .inl (cJ, 500, .inr (.inl dn))), (m3, .inl (cI, 500, .inl mu))]) [0, 1, 2, 3] (by decide) rfl
                    have hz : ((-1), (0, up, dn, mu, am)) = f_M_over up dn mu am a b := by unfold f_M_over; rw [if_neg c_1, if_neg c_2, if_neg c_5, if_neg c_6, if_pos c_7, if_neg c_22, if_pos c_23, if_neg c_25]
                    exact W.iret (v := (-1)) hx hb hr (fun t ht hW => ⟨⟨(-1), (0, up, dn, mu, am), rfl, hz, wb_of ht hW hP9 hK hD9⟩, hS.F ht⟩) hS.2.2 d_M_over_98
                · skip
                  refine lv_iconst (v := 1) hx hb d_M_over_84 (by decide) ?_
                  refine lv_goto (tgt := 89) hx hb d_M_over_85 (by decide) ?_
                  refine lv_istore (lv' := [(5, .int 1), (4, .int v_4), (3, .int v_3), (0, .ref g), (1, .int a), (2, .int b)]) hx hb d_M_over_89 hl (by decide) rfl (fun ls hl => ?_)
                  refine lv_iload hx hb d_M_over_91 (lv_at hl 0 rfl) ?_
                  refine lv_iconst (v := (-1)) hx hb d_M_over_93 (by decide) ?_
                  refine lv_icmp_ne (tgt := 99) hx hb d_M_over_94 (by decide) (fun c_27 => ?_) (fun c_27 => ?_)
                  · skip
                    refine lv_aload_n hx hb d_M_over_99 rfl (lv_at hl 3 rfl) ?_
                    refine lv_aload_n hx hb d_M_over_100 rfl (lv_at hl 3 rfl) ?_
                    refine va_get (D := (dC, dI)) (ci := 2) (v := .ref m1) (C := R_M) (T := F_M) (N := 11) hx hb hg in_M hown hK hP 0 rfl rfl 2 (by decide) (hg _ wg_268) (fun _ h9 => h9) rfl d_M_over_101 ?_
                    refine lv_iload_n hx hb d_M_over_104 rfl (lv_at hl 5 rfl) ?_
                    refine va_lald hx hb hK hP 1 0 rfl rfl (mam_in c_2 ha) d_M_over_105 ?_
                    refine lv_lconst (v := 0) hx hb d_M_over_106 (by decide) ?_
                    refine W.lcmp hx hb d_M_over_107 ?_
                    refine lv_if_ne (tgt := 115) hx hb d_M_over_108 (by decide) (fun c_28 => ?_) (fun c_28 => ?_)
                    · skip
                      rw [lg_cmp_eq] at c_28
                      refine lv_iconst (v := 0) hx hb d_M_over_115 (by decide) ?_
                      refine va_put (D := (dC, dI)) (ci := 2) (v := .int 0) (ty := .int) (C := R_M) (T := F_M) (N := 11) hx hb hg in_M tt_M tt_M_ok nn_M hown hK hP hD hS 0 rfl rfl 0 (by decide) (hg _ wg_266) (fun _ h9 => h9) rfl (by decide +kernel) rfl rfl (Nat.le_of_ble_eq_true rfl) d_M_over_116 (fun H locs hP hD hS => ?_)
                      have hP : va_P (dC, dI) classes [(g, .inr (2, [.int 0, .int am, .ref m1, .ref m2, .ref m3, .ref m4, .ref m5, .ref m6, .ref m7, .int wc, .ref m8])), (m1, .inl (cJ, 500, .inr (.inl up))), (m2, .inl (cJ, 500, .inr (.inl dn))), (m3, .inl (cI, 500, .inl mu))] H := hP
                      have hD : va_D A [(g, .inr (2, [.int 0, .int am, .ref m1, .ref m2, .ref m3, .ref m4, .ref m5, .ref m6, .ref m7, .int wc, .ref m8])), (m1, .inl (cJ, 500, .inr (.inl up))), (m2, .inl (cJ, 500, .inr (.inl dn))), (m3, .inl (cI, 500, .inl mu))] := hD
                      refine lv_aload_n hx hb d_M_over_119 rfl (lv_at hl 3 rfl) ?_
                      refine va_get (D := (dC, dI)) (ci := 2) (v := .int 0) (C := R_M) (T := F_M) (N := 11) hx hb hg in_M hown hK hP 0 rfl rfl 0 (by decide) (hg _ wg_266) (fun _ h9 => h9) rfl d_M_over_120 ?_
                      refine lv_if_le (tgt := 130) hx hb d_M_over_123 (by decide) (fun c_29 => ?_) (fun c_29 => ?_)
                      · skip
                        refine lv_aload_n hx hb d_M_over_130 rfl (lv_at hl 3 rfl) ?_
                        refine lv_aload_n hx hb d_M_over_131 rfl (lv_at hl 3 rfl) ?_
                        refine va_get (D := (dC, dI)) (ci := 2) (v := .ref m1) (C := R_M) (T := F_M) (N := 11) hx hb hg in_M hown hK hP 0 rfl rfl 2 (by decide) (hg _ wg_268) (fun _ h9 => h9) rfl d_M_over_132 ?_
                        refine lv_iload_n hx hb d_M_over_135 rfl (lv_at hl 4 rfl) ?_
                        refine va_lald hx hb hK hP 1 0 rfl rfl (mam_in c_1 ha) d_M_over_136 ?_
                        refine lv_aload_n hx hb d_M_over_137 rfl (lv_at hl 3 rfl) ?_
                        refine va_get (D := (dC, dI)) (ci := 2) (v := .ref m2) (C := R_M) (T := F_M) (N := 11) hx hb hg in_M hown hK hP 0 rfl rfl 3 (by decide) (hg _ wg_269) (fun _ h9 => h9) rfl d_M_over_138 ?_
                        refine lv_iload_n hx hb d_M_over_141 rfl (lv_at hl 5 rfl) ?_
                        refine va_lald hx hb hK hP 2 0 rfl rfl (mam_in c_2 ha) d_M_over_142 ?_
                        refine lv_lmul hx hb d_M_over_143 ?_
                        refine lv_aload_n hx hb d_M_over_144 rfl (lv_at hl 3 rfl) ?_
                        refine va_get (D := (dC, dI)) (ci := 2) (v := .ref m2) (C := R_M) (T := F_M) (N := 11) hx hb hg in_M hown hK hP 0 rfl rfl 3 (by decide) (hg _ wg_269) (fun _ h9 => h9) rfl d_M_over_145 ?_
                        refine lv_iload_n hx hb d_M_over_148 rfl (lv_at hl 4 rfl) ?_
                        refine va_lald hx hb hK hP 2 0 rfl rfl (mam_in c_1 ha) d_M_over_149 ?_
                        refine lv_aload_n hx hb d_M_over_150 rfl (lv_at hl 3 rfl) ?_
                        refine va_get (D := (dC, dI)) (ci := 2) (v := .ref m1) (C := R_M) (T := F_M) (N := 11) hx hb hg in_M hown hK hP 0 rfl rfl 2 (by decide) (hg _ wg_268) (fun _ h9 => h9) rfl d_M_over_151 ?_
                        refine lv_iload_n hx hb d_M_over_154 rfl (lv_at hl 5 rfl) ?_
                        refine va_lald hx hb hK hP 1 0 rfl rfl (mam_in c_2 ha) d_M_over_155 ?_
                        refine lv_lmul hx hb d_M_over_156 ?_
                        refine lv_iload hx hb d_M_over_157 (lv_at hl 0 rfl) ?_
                        have hPc := hP.sub (ws' := [(g, .inr (2, [.int 0, .int am, .ref m1, .ref m2, .ref m3, .ref m4, .ref m5, .ref m6, .ref m7, .int wc, .ref m8])), (m1, .inl (cJ, 500, .inr (.inl up))), (m2, .inl (cJ, 500, .inr (.inl dn))), (m3, .inl (cI, 500, .inl mu))]) [0, 1, 2, 3] rfl
                        have hDc := hD.sub (ws' := [(g, .inr (2, [.int 0, .int am, .ref m1, .ref m2, .ref m3, .ref m4, .ref m5, .ref m6, .ref m7, .int wc, .ref m8])), (m1, .inl (cJ, 500, .inr (.inl up))), (m2, .inl (cJ, 500, .inr (.inl dn))), (m3, .inl (cI, 500, .inl mu))]) [0, 1, 2, 3] (by decide) rfl
                        have hFc := va_free (wc := [(g, .inr (2, [.int 0, .int am, .ref m1, .ref m2, .ref m3, .ref m4, .ref m5, .ref m6, .ref m7, .int wc, .ref m8])), (m1, .inl (cJ, 500, .inr (.inl up))), (m2, .inl (cJ, 500, .inr (.inl dn))), (m3, .inl (cI, 500, .inl mu))]) hD hS hA [0, 1, 2, 3] rfl
                        refine va_calli (va_runV (As := [.long ((up a.toNatClampNeg) * (dn b.toNatClampNeg)), .long ((dn a.toNatClampNeg) * (up b.toNatClampNeg)), .int 1]) (rest := []) ⟨hx, hb, hml, hown, hg⟩ (k_M_make l dC dI cJ cI cT g m1 m2 m3 m4 m5 m6 m7 m8 0 am wc up dn mu ((up a.toNatClampNeg) * (dn b.toNatClampNeg)) ((dn a.toNatClampNeg) * (up b.toNatClampNeg)) 1 _ ha0 ha (hq c_1 c_2 c_28)) (q_V 3 hg wg_300 wg_298 wg_299 wg_10 wg_15 rfl rfl (by decide +kernel) ⟨Nat.le_of_ble_eq_true rfl, Nat.le_of_ble_eq_true rfl⟩) ⟨wx_blind, va_recv hK hPc (ci := 2) (q0 := 0) rfl rfl, wx_pre (as := .ref g :: [.long ((up a.toNatClampNeg) * (dn b.toNatClampNeg)), .long ((dn a.toNatClampNeg) * (up b.toNatClampNeg)), .int 1]) hPc hK hDc⟩ rfl rfl hl.1 rfl (lv_room (Nat.le_of_ble_eq_true rfl)) d_M_over_159 ⟨Nat.le_of_ble_eq_true rfl, Nat.le_of_ble_eq_true rfl⟩) hS (fun q _ h => hFc q h) hFc (fun r_34 u t H1 locs ht hvm hw_35 hB hz1 hk1 hS => ?_)
                        obtain ⟨up_30, dn_31, mu_32, am_33⟩ := u
                        obtain ⟨hP1, hK1, hD1⟩ := hB
                        rw [ht] at hP1
                        obtain ⟨hP, hD⟩ := va_join (wr := []) (w1 := [(g, .inr (2, [.int 0, .int am_33, .ref m1, .ref m2, .ref m3, .ref m4, .ref m5, .ref m6, .ref m7, .int wc, .ref m8])), (m1, .inl (cJ, 500, .inr (.inl up_30))), (m2, .inl (cJ, 500, .inr (.inl dn_31))), (m3, .inl (cI, 500, .inl mu_32))]) hP hD [0, 1, 2, 3] [] rfl rfl (by decide) (by decide) hk1 hFc hP1 hD1
                        generalize H1 = H at hP hS ⊢
                        have hP : va_P (dC, dI) classes [(g, .inr (2, [.int 0, .int am_33, .ref m1, .ref m2, .ref m3, .ref m4, .ref m5, .ref m6, .ref m7, .int wc, .ref m8])), (m1, .inl (cJ, 500, .inr (.inl up_30))), (m2, .inl (cJ, 500, .inr (.inl dn_31))), (m3, .inl (cI, 500, .inl mu_32))] H := hP
                        have hD : va_D A [(g, .inr (2, [.int 0, .int am_33, .ref m1, .ref m2, .ref m3, .ref m4, .ref m5, .ref m6, .ref m7, .int wc, .ref m8])), (m1, .inl (cJ, 500, .inr (.inl up_30))), (m2, .inl (cJ, 500, .inr (.inl dn_31))), (m3, .inl (cI, 500, .inl mu_32))] := hD
                        subst ev_4
                        subst ev_3
                        have hP9 := hP.sub (ws' := [(g, .inr (2, [.int 0, .int am_33, .ref m1, .ref m2, .ref m3, .ref m4, .ref m5, .ref m6, .ref m7, .int wc, .ref m8])), (m1, .inl (cJ, 500, .inr (.inl up_30))), (m2, .inl (cJ, 500, .inr (.inl dn_31))), (m3, .inl (cI, 500, .inl mu_32))]) [0, 1, 2, 3] rfl
                        have hD9 := hD.sub (ws' := [(g, .inr (2, [.int 0, .int am_33, .ref m1, .ref m2, .ref m3, .ref m4, .ref m5, .ref m6, .ref m7, .int wc, .ref m8])), (m1, .inl (cJ, 500, .inr (.inl up_30))), (m2, .inl (cJ, 500, .inr (.inl dn_31))), (m3, .inl (cI, 500, .inl mu_32))]) [0, 1, 2, 3] (by decide) rfl
                        have hz : (r_34, (0, up_30, dn_31, mu_32, am_33)) = f_M_over up dn mu am a b := by unfold f_M_over; rw [if_neg c_1, if_neg c_2, if_neg c_5, if_neg c_6, if_pos c_7, if_neg c_22, if_pos c_23, if_pos c_25, if_neg c_28]; exact congrArg (mk5 0) hw_35
                        exact W.iret (v := r_34) hx hb hr (fun t ht hW => ⟨⟨r_34, (0, up_30, dn_31, mu_32, am_33), rfl, hz, wb_of ht hW hP9 hK hD9⟩, hS.F ht⟩) hS.2.2 d_M_over_162
                      · skip
                        exact absurd (by decide) c_29
                    · skip
                      rw [lg_cmp_eq] at c_28
                      refine lv_iconst (v := 1) hx hb d_M_over_111 (by decide) ?_
                      refine lv_goto (tgt := 116) hx hb d_M_over_112 (by decide) ?_
                      refine va_put (D := (dC, dI)) (ci := 2) (v := .int 1) (ty := .int) (C := R_M) (T := F_M) (N := 11) hx hb hg in_M tt_M tt_M_ok nn_M hown hK hP hD hS 0 rfl rfl 0 (by decide) (hg _ wg_266) (fun _ h9 => h9) rfl (by decide +kernel) rfl rfl (Nat.le_of_ble_eq_true rfl) d_M_over_116 (fun H locs hP hD hS => ?_)
                      have hP : va_P (dC, dI) classes [(g, .inr (2, [.int 1, .int am, .ref m1, .ref m2, .ref m3, .ref m4, .ref m5, .ref m6, .ref m7, .int wc, .ref m8])), (m1, .inl (cJ, 500, .inr (.inl up))), (m2, .inl (cJ, 500, .inr (.inl dn))), (m3, .inl (cI, 500, .inl mu))] H := hP
                      have hD : va_D A [(g, .inr (2, [.int 1, .int am, .ref m1, .ref m2, .ref m3, .ref m4, .ref m5, .ref m6, .ref m7, .int wc, .ref m8])), (m1, .inl (cJ, 500, .inr (.inl up))), (m2, .inl (cJ, 500, .inr (.inl dn))), (m3, .inl (cI, 500, .inl mu))] := hD
                      refine lv_aload_n hx hb d_M_over_119 rfl (lv_at hl 3 rfl) ?_
                      refine va_get (D := (dC, dI)) (ci := 2) (v := .int 1) (C := R_M) (T := F_M) (N := 11) hx hb hg in_M hown hK hP 0 rfl rfl 0 (by decide) (hg _ wg_266) (fun _ h9 => h9) rfl d_M_over_120 ?_
                      refine lv_if_le (tgt := 130) hx hb d_M_over_123 (by decide) (fun c_36 => ?_) (fun c_36 => ?_)
                      · skip
                        exact absurd c_36 (by decide)
                      · skip
                        refine lv_iconst (v := 0) hx hb d_M_over_126 (by decide) ?_
                        refine lv_goto (tgt := 162) hx hb d_M_over_127 (by decide) ?_
                        subst ev_4
                        subst ev_3
                        have hP9 := hP.sub (ws' := [(g, .inr (2, [.int 1, .int am, .ref m1, .ref m2, .ref m3, .ref m4, .ref m5, .ref m6, .ref m7, .int wc, .ref m8])), (m1, .inl (cJ, 500, .inr (.inl up))), (m2, .inl (cJ, 500, .inr (.inl dn))), (m3, .inl (cI, 500, .inl mu))]) [0, 1, 2, 3] rfl
                        have hD9 := hD.sub (ws' := [(g, .inr (2, [.int 1, .int am, .ref m1, .ref m2, .ref m3, .ref m4, .ref m5, .ref m6, .ref m7, .int wc, .ref m8])), (m1, .inl (cJ, 500, .inr (.inl up))), (m2, .inl (cJ, 500, .inr (.inl dn))), (m3, .inl (cI, 500, .inl mu))]) [0, 1, 2, 3] (by decide) rfl
                        have hz : (0, (1, up, dn, mu, am)) = f_M_over up dn mu am a b := by unfold f_M_over; rw [if_neg c_1, if_neg c_2, if_neg c_5, if_neg c_6, if_pos c_7, if_neg c_22, if_pos c_23, if_pos c_25, if_pos c_28]
                        exact W.iret (v := 0) hx hb hr (fun t ht hW => ⟨⟨0, (1, up, dn, mu, am), rfl, hz, wb_of ht hW hP9 hK hD9⟩, hS.F ht⟩) hS.2.2 d_M_over_162
                  · skip
                    exact absurd c_27 (by decide)
            · skip
              refine lv_iconst (v := 2) hx hb d_M_over_69 (by decide) ?_
              refine lv_goto (tgt := 89) hx hb d_M_over_70 (by decide) ?_
              refine lv_istore (lv' := [(5, .int 2), (4, .int v_4), (3, .int v_3), (0, .ref g), (1, .int a), (2, .int b)]) hx hb d_M_over_89 hl (by decide) rfl (fun ls hl => ?_)
              refine lv_iload hx hb d_M_over_91 (lv_at hl 0 rfl) ?_
              refine lv_iconst (v := (-1)) hx hb d_M_over_93 (by decide) ?_
              refine lv_icmp_ne (tgt := 99) hx hb d_M_over_94 (by decide) (fun c_37 => ?_) (fun c_37 => ?_)
              · skip
                refine lv_aload_n hx hb d_M_over_99 rfl (lv_at hl 3 rfl) ?_
                refine lv_aload_n hx hb d_M_over_100 rfl (lv_at hl 3 rfl) ?_
                refine va_get (D := (dC, dI)) (ci := 2) (v := .ref m1) (C := R_M) (T := F_M) (N := 11) hx hb hg in_M hown hK hP 0 rfl rfl 2 (by decide) (hg _ wg_268) (fun _ h9 => h9) rfl d_M_over_101 ?_
                refine lv_iload_n hx hb d_M_over_104 rfl (lv_at hl 5 rfl) ?_
                refine va_lald hx hb hK hP 1 0 rfl rfl (mam_in c_2 ha) d_M_over_105 ?_
                refine lv_lconst (v := 0) hx hb d_M_over_106 (by decide) ?_
                refine W.lcmp hx hb d_M_over_107 ?_
                refine lv_if_ne (tgt := 115) hx hb d_M_over_108 (by decide) (fun c_38 => ?_) (fun c_38 => ?_)
                · skip
                  rw [lg_cmp_eq] at c_38
                  refine lv_iconst (v := 0) hx hb d_M_over_115 (by decide) ?_
                  refine va_put (D := (dC, dI)) (ci := 2) (v := .int 0) (ty := .int) (C := R_M) (T := F_M) (N := 11) hx hb hg in_M tt_M tt_M_ok nn_M hown hK hP hD hS 0 rfl rfl 0 (by decide) (hg _ wg_266) (fun _ h9 => h9) rfl (by decide +kernel) rfl rfl (Nat.le_of_ble_eq_true rfl) d_M_over_116 (fun H locs hP hD hS => ?_)
                  have hP : va_P (dC, dI) classes [(g, .inr (2, [.int 0, .int am, .ref m1, .ref m2, .ref m3, .ref m4, .ref m5, .ref m6, .ref m7, .int wc, .ref m8])), (m1, .inl (cJ, 500, .inr (.inl up))), (m2, .inl (cJ, 500, .inr (.inl dn))), (m3, .inl (cI, 500, .inl mu))] H := hP
                  have hD : va_D A [(g, .inr (2, [.int 0, .int am, .ref m1, .ref m2, .ref m3, .ref m4, .ref m5, .ref m6, .ref m7, .int wc, .ref m8])), (m1, .inl (cJ, 500, .inr (.inl up))), (m2, .inl (cJ, 500, .inr (.inl dn))), (m3, .inl (cI, 500, .inl mu))] := hD
                  refine lv_aload_n hx hb d_M_over_119 rfl (lv_at hl 3 rfl) ?_
                  refine va_get (D := (dC, dI)) (ci := 2) (v := .int 0) (C := R_M) (T := F_M) (N := 11) hx hb hg in_M hown hK hP 0 rfl rfl 0 (by decide) (hg _ wg_266) (fun _ h9 => h9) rfl d_M_over_120 ?_
                  refine lv_if_le (tgt := 130) hx hb d_M_over_123 (by decide) (fun c_39 => ?_) (fun c_39 => ?_)
                  · skip
                    refine lv_aload_n hx hb d_M_over_130 rfl (lv_at hl 3 rfl) ?_
                    refine lv_aload_n hx hb d_M_over_131 rfl (lv_at hl 3 rfl) ?_
                    refine va_get (D := (dC, dI)) (ci := 2) (v := .ref m1) (C := R_M) (T := F_M) (N := 11) hx hb hg in_M hown hK hP 0 rfl rfl 2 (by decide) (hg _ wg_268) (fun _ h9 => h9) rfl d_M_over_132 ?_
                    refine lv_iload_n hx hb d_M_over_135 rfl (lv_at hl 4 rfl) ?_
                    refine va_lald hx hb hK hP 1 0 rfl rfl (mam_in c_1 ha) d_M_over_136 ?_
                    refine lv_aload_n hx hb d_M_over_137 rfl (lv_at hl 3 rfl) ?_
                    refine va_get (D := (dC, dI)) (ci := 2) (v := .ref m2) (C := R_M) (T := F_M) (N := 11) hx hb hg in_M hown hK hP 0 rfl rfl 3 (by decide) (hg _ wg_269) (fun _ h9 => h9) rfl d_M_over_138 ?_
                    refine lv_iload_n hx hb d_M_over_141 rfl (lv_at hl 5 rfl) ?_
                    refine va_lald hx hb hK hP 2 0 rfl rfl (mam_in c_2 ha) d_M_over_142 ?_
                    refine lv_lmul hx hb d_M_over_143 ?_
                    refine lv_aload_n hx hb d_M_over_144 rfl (lv_at hl 3 rfl) ?_
                    refine va_get (D := (dC, dI)) (ci := 2) (v := .ref m2) (C := R_M) (T := F_M) (N := 11) hx hb hg in_M hown hK hP 0 rfl rfl 3 (by decide) (hg _ wg_269) (fun _ h9 => h9) rfl d_M_over_145 ?_
                    refine lv_iload_n hx hb d_M_over_148 rfl (lv_at hl 4 rfl) ?_
                    refine va_lald hx hb hK hP 2 0 rfl rfl (mam_in c_1 ha) d_M_over_149 ?_
                    refine lv_aload_n hx hb d_M_over_150 rfl (lv_at hl 3 rfl) ?_
                    refine va_get (D := (dC, dI)) (ci := 2) (v := .ref m1) (C := R_M) (T := F_M) (N := 11) hx hb hg in_M hown hK hP 0 rfl rfl 2 (by decide) (hg _ wg_268) (fun _ h9 => h9) rfl d_M_over_151 ?_
                    refine lv_iload_n hx hb d_M_over_154 rfl (lv_at hl 5 rfl) ?_
                    refine va_lald hx hb hK hP 1 0 rfl rfl (mam_in c_2 ha) d_M_over_155 ?_
                    refine lv_lmul hx hb d_M_over_156 ?_
                    refine lv_iload hx hb d_M_over_157 (lv_at hl 0 rfl) ?_
                    have hPc := hP.sub (ws' := [(g, .inr (2, [.int 0, .int am, .ref m1, .ref m2, .ref m3, .ref m4, .ref m5, .ref m6, .ref m7, .int wc, .ref m8])), (m1, .inl (cJ, 500, .inr (.inl up))), (m2, .inl (cJ, 500, .inr (.inl dn))), (m3, .inl (cI, 500, .inl mu))]) [0, 1, 2, 3] rfl
                    have hDc := hD.sub (ws' := [(g, .inr (2, [.int 0, .int am, .ref m1, .ref m2, .ref m3, .ref m4, .ref m5, .ref m6, .ref m7, .int wc, .ref m8])), (m1, .inl (cJ, 500, .inr (.inl up))), (m2, .inl (cJ, 500, .inr (.inl dn))), (m3, .inl (cI, 500, .inl mu))]) [0, 1, 2, 3] (by decide) rfl
                    have hFc := va_free (wc := [(g, .inr (2, [.int 0, .int am, .ref m1, .ref m2, .ref m3, .ref m4, .ref m5, .ref m6, .ref m7, .int wc, .ref m8])), (m1, .inl (cJ, 500, .inr (.inl up))), (m2, .inl (cJ, 500, .inr (.inl dn))), (m3, .inl (cI, 500, .inl mu))]) hD hS hA [0, 1, 2, 3] rfl
                    refine va_calli (va_runV (As := [.long ((up a.toNatClampNeg) * (dn b.toNatClampNeg)), .long ((dn a.toNatClampNeg) * (up b.toNatClampNeg)), .int 2]) (rest := []) ⟨hx, hb, hml, hown, hg⟩ (k_M_make l dC dI cJ cI cT g m1 m2 m3 m4 m5 m6 m7 m8 0 am wc up dn mu ((up a.toNatClampNeg) * (dn b.toNatClampNeg)) ((dn a.toNatClampNeg) * (up b.toNatClampNeg)) 2 _ ha0 ha (hq c_1 c_2 c_38)) (q_V 3 hg wg_300 wg_298 wg_299 wg_10 wg_15 rfl rfl (by decide +kernel) ⟨Nat.le_of_ble_eq_true rfl, Nat.le_of_ble_eq_true rfl⟩) ⟨wx_blind, va_recv hK hPc (ci := 2) (q0 := 0) rfl rfl, wx_pre (as := .ref g :: [.long ((up a.toNatClampNeg) * (dn b.toNatClampNeg)), .long ((dn a.toNatClampNeg) * (up b.toNatClampNeg)), .int 2]) hPc hK hDc⟩ rfl rfl hl.1 rfl (lv_room (Nat.le_of_ble_eq_true rfl)) d_M_over_159 ⟨Nat.le_of_ble_eq_true rfl, Nat.le_of_ble_eq_true rfl⟩) hS (fun q _ h => hFc q h) hFc (fun r_44 u t H1 locs ht hvm hw_45 hB hz1 hk1 hS => ?_)
                    obtain ⟨up_40, dn_41, mu_42, am_43⟩ := u
                    obtain ⟨hP1, hK1, hD1⟩ := hB
                    rw [ht] at hP1
                    obtain ⟨hP, hD⟩ := va_join (wr := []) (w1 := [(g, .inr (2, [.int 0, .int am_43, .ref m1, .ref m2, .ref m3, .ref m4, .ref m5, .ref m6, .ref m7, .int wc, .ref m8])), (m1, .inl (cJ, 500, .inr (.inl up_40))), (m2, .inl (cJ, 500, .inr (.inl dn_41))), (m3, .inl (cI, 500, .inl mu_42))]) hP hD [0, 1, 2, 3] [] rfl rfl (by decide) (by decide) hk1 hFc hP1 hD1
                    generalize H1 = H at hP hS ⊢
                    have hP : va_P (dC, dI) classes [(g, .inr (2, [.int 0, .int am_43, .ref m1, .ref m2, .ref m3, .ref m4, .ref m5, .ref m6, .ref m7, .int wc, .ref m8])), (m1, .inl (cJ, 500, .inr (.inl up_40))), (m2, .inl (cJ, 500, .inr (.inl dn_41))), (m3, .inl (cI, 500, .inl mu_42))] H := hP
                    have hD : va_D A [(g, .inr (2, [.int 0, .int am_43, .ref m1, .ref m2, .ref m3, .ref m4, .ref m5, .ref m6, .ref m7, .int wc, .ref m8])), (m1, .inl (cJ, 500, .inr (.inl up_40))), (m2, .inl (cJ, 500, .inr (.inl dn_41))), (m3, .inl (cI, 500, .inl mu_42))] := hD
                    subst ev_4
                    subst ev_3
                    have hP9 := hP.sub (ws' := [(g, .inr (2, [.int 0, .int am_43, .ref m1, .ref m2, .ref m3, .ref m4, .ref m5, .ref m6, .ref m7, .int wc, .ref m8])), (m1, .inl (cJ, 500, .inr (.inl up_40))), (m2, .inl (cJ, 500, .inr (.inl dn_41))), (m3, .inl (cI, 500, .inl mu_42))]) [0, 1, 2, 3] rfl
                    have hD9 := hD.sub (ws' := [(g, .inr (2, [.int 0, .int am_43, .ref m1, .ref m2, .ref m3, .ref m4, .ref m5, .ref m6, .ref m7, .int wc, .ref m8])), (m1, .inl (cJ, 500, .inr (.inl up_40))), (m2, .inl (cJ, 500, .inr (.inl dn_41))), (m3, .inl (cI, 500, .inl mu_42))]) [0, 1, 2, 3] (by decide) rfl
                    have hz : (r_44, (0, up_40, dn_41, mu_42, am_43)) = f_M_over up dn mu am a b := by unfold f_M_over; rw [if_neg c_1, if_neg c_2, if_neg c_5, if_neg c_6, if_pos c_7, if_pos c_22, if_neg c_38]; exact congrArg (mk5 0) hw_45
                    exact W.iret (v := r_44) hx hb hr (fun t ht hW => ⟨⟨r_44, (0, up_40, dn_41, mu_42, am_43), rfl, hz, wb_of ht hW hP9 hK hD9⟩, hS.F ht⟩) hS.2.2 d_M_over_162
                  · skip
                    exact absurd (by decide) c_39
                · skip
                  rw [lg_cmp_eq] at c_38
                  refine lv_iconst (v := 1) hx hb d_M_over_111 (by decide) ?_
                  refine lv_goto (tgt := 116) hx hb d_M_over_112 (by decide) ?_
                  refine va_put (D := (dC, dI)) (ci := 2) (v := .int 1) (ty := .int) (C := R_M) (T := F_M) (N := 11) hx hb hg in_M tt_M tt_M_ok nn_M hown hK hP hD hS 0 rfl rfl 0 (by decide) (hg _ wg_266) (fun _ h9 => h9) rfl (by decide +kernel) rfl rfl (Nat.le_of_ble_eq_true rfl) d_M_over_116 (fun H locs hP hD hS => ?_)
                  have hP : va_P (dC, dI) classes [(g, .inr (2, [.int 1, .int am, .ref m1, .ref m2, .ref m3, .ref m4, .ref m5, .ref m6, .ref m7, .int wc, .ref m8])), (m1, .inl (cJ, 500, .inr (.inl up))), (m2, .inl (cJ, 500, .inr (.inl dn))), (m3, .inl (cI, 500, .inl mu))] H := hP
                  have hD : va_D A [(g, .inr (2, [.int 1, .int am, .ref m1, .ref m2, .ref m3, .ref m4, .ref m5, .ref m6, .ref m7, .int wc, .ref m8])), (m1, .inl (cJ, 500, .inr (.inl up))), (m2, .inl (cJ, 500, .inr (.inl dn))), (m3, .inl (cI, 500, .inl mu))] := hD
                  refine lv_aload_n hx hb d_M_over_119 rfl (lv_at hl 3 rfl) ?_
                  refine va_get (D := (dC, dI)) (ci := 2) (v := .int 1) (C := R_M) (T := F_M) (N := 11) hx hb hg in_M hown hK hP 0 rfl rfl 0 (by decide) (hg _ wg_266) (fun _ h9 => h9) rfl d_M_over_120 ?_
                  refine lv_if_le (tgt := 130) hx hb d_M_over_123 (by decide) (fun c_46 => ?_) (fun c_46 => ?_)
                  · skip
                    exact absurd c_46 (by decide)
                  · skip
                    refine lv_iconst (v := 0) hx hb d_M_over_126 (by decide) ?_
                    refine lv_goto (tgt := 162) hx hb d_M_over_127 (by decide) ?_
                    subst ev_4
                    subst ev_3
                    have hP9 := hP.sub (ws' := [(g, .inr (2, [.int 1, .int am, .ref m1, .ref m2, .ref m3, .ref m4, .ref m5, .ref m6, .ref m7, .int wc, .ref m8])), (m1, .inl (cJ, 500, .inr (.inl up))), (m2, .inl (cJ, 500, .inr (.inl dn))), (m3, .inl (cI, 500, .inl mu))]) [0, 1, 2, 3] rfl
                    have hD9 := hD.sub (ws' := [(g, .inr (2, [.int 1, .int am, .ref m1, .ref m2, .ref m3, .ref m4, .ref m5, .ref m6, .ref m7, .int wc, .ref m8])), (m1, .inl (cJ, 500, .inr (.inl up))), (m2, .inl (cJ, 500, .inr (.inl dn))), (m3, .inl (cI, 500, .inl mu))]) [0, 1, 2, 3] (by decide) rfl
                    have hz : (0, (1, up, dn, mu, am)) = f_M_over up dn mu am a b := by unfold f_M_over; rw [if_neg c_1, if_neg c_2, if_neg c_5, if_neg c_6, if_pos c_7, if_pos c_22, if_pos c_38]
                    exact W.iret (v := 0) hx hb hr (fun t ht hW => ⟨⟨0, (1, up, dn, mu, am), rfl, hz, wb_of ht hW hP9 hK hD9⟩, hS.F ht⟩) hS.2.2 d_M_over_162
              · skip
                exact absurd c_37 (by decide)
        · skip
          refine lv_iload_n hx hb d_M_over_54 rfl (lv_at hl 1 rfl) ?_
          refine lv_goto (tgt := 89) hx hb d_M_over_55 (by decide) ?_
          refine lv_istore (lv' := [(5, .int v_3), (4, .int v_4), (3, .int v_3), (0, .ref g), (1, .int a), (2, .int b)]) hx hb d_M_over_89 hl (by decide) rfl (fun ls hl => ?_)
          refine lv_iload hx hb d_M_over_91 (lv_at hl 0 rfl) ?_
          refine lv_iconst (v := (-1)) hx hb d_M_over_93 (by decide) ?_
          refine lv_icmp_ne (tgt := 99) hx hb d_M_over_94 (by decide) (fun c_47 => ?_) (fun c_47 => ?_)
          · skip
            refine lv_aload_n hx hb d_M_over_99 rfl (lv_at hl 3 rfl) ?_
            refine lv_aload_n hx hb d_M_over_100 rfl (lv_at hl 3 rfl) ?_
            refine va_get (D := (dC, dI)) (ci := 2) (v := .ref m1) (C := R_M) (T := F_M) (N := 11) hx hb hg in_M hown hK hP 0 rfl rfl 2 (by decide) (hg _ wg_268) (fun _ h9 => h9) rfl d_M_over_101 ?_
            refine lv_iload_n hx hb d_M_over_104 rfl (lv_at hl 5 rfl) ?_
            refine va_lald hx hb hK hP 1 0 rfl rfl (mam_in c_2 ha) d_M_over_105 ?_
            refine lv_lconst (v := 0) hx hb d_M_over_106 (by decide) ?_
            refine W.lcmp hx hb d_M_over_107 ?_
            refine lv_if_ne (tgt := 115) hx hb d_M_over_108 (by decide) (fun c_48 => ?_) (fun c_48 => ?_)
            · skip
              rw [lg_cmp_eq] at c_48
              refine lv_iconst (v := 0) hx hb d_M_over_115 (by decide) ?_
              refine va_put (D := (dC, dI)) (ci := 2) (v := .int 0) (ty := .int) (C := R_M) (T := F_M) (N := 11) hx hb hg in_M tt_M tt_M_ok nn_M hown hK hP hD hS 0 rfl rfl 0 (by decide) (hg _ wg_266) (fun _ h9 => h9) rfl (by decide +kernel) rfl rfl (Nat.le_of_ble_eq_true rfl) d_M_over_116 (fun H locs hP hD hS => ?_)
              have hP : va_P (dC, dI) classes [(g, .inr (2, [.int 0, .int am, .ref m1, .ref m2, .ref m3, .ref m4, .ref m5, .ref m6, .ref m7, .int wc, .ref m8])), (m1, .inl (cJ, 500, .inr (.inl up))), (m2, .inl (cJ, 500, .inr (.inl dn))), (m3, .inl (cI, 500, .inl mu))] H := hP
              have hD : va_D A [(g, .inr (2, [.int 0, .int am, .ref m1, .ref m2, .ref m3, .ref m4, .ref m5, .ref m6, .ref m7, .int wc, .ref m8])), (m1, .inl (cJ, 500, .inr (.inl up))), (m2, .inl (cJ, 500, .inr (.inl dn))), (m3, .inl (cI, 500, .inl mu))] := hD
              refine lv_aload_n hx hb d_M_over_119 rfl (lv_at hl 3 rfl) ?_
              refine va_get (D := (dC, dI)) (ci := 2) (v := .int 0) (C := R_M) (T := F_M) (N := 11) hx hb hg in_M hown hK hP 0 rfl rfl 0 (by decide) (hg _ wg_266) (fun _ h9 => h9) rfl d_M_over_120 ?_
              refine lv_if_le (tgt := 130) hx hb d_M_over_123 (by decide) (fun c_49 => ?_) (fun c_49 => ?_)
              · skip
                refine lv_aload_n hx hb d_M_over_130 rfl (lv_at hl 3 rfl) ?_
                refine lv_aload_n hx hb d_M_over_131 rfl (lv_at hl 3 rfl) ?_
                refine va_get (D := (dC, dI)) (ci := 2) (v := .ref m1) (C := R_M) (T := F_M) (N := 11) hx hb hg in_M hown hK hP 0 rfl rfl 2 (by decide) (hg _ wg_268) (fun _ h9 => h9) rfl d_M_over_132 ?_
                refine lv_iload_n hx hb d_M_over_135 rfl (lv_at hl 4 rfl) ?_
                refine va_lald hx hb hK hP 1 0 rfl rfl (mam_in c_1 ha) d_M_over_136 ?_
                refine lv_aload_n hx hb d_M_over_137 rfl (lv_at hl 3 rfl) ?_
                refine va_get (D := (dC, dI)) (ci := 2) (v := .ref m2) (C := R_M) (T := F_M) (N := 11) hx hb hg in_M hown hK hP 0 rfl rfl 3 (by decide) (hg _ wg_269) (fun _ h9 => h9) rfl d_M_over_138 ?_
                refine lv_iload_n hx hb d_M_over_141 rfl (lv_at hl 5 rfl) ?_
                refine va_lald hx hb hK hP 2 0 rfl rfl (mam_in c_2 ha) d_M_over_142 ?_
                refine lv_lmul hx hb d_M_over_143 ?_
                refine lv_aload_n hx hb d_M_over_144 rfl (lv_at hl 3 rfl) ?_
                refine va_get (D := (dC, dI)) (ci := 2) (v := .ref m2) (C := R_M) (T := F_M) (N := 11) hx hb hg in_M hown hK hP 0 rfl rfl 3 (by decide) (hg _ wg_269) (fun _ h9 => h9) rfl d_M_over_145 ?_
                refine lv_iload_n hx hb d_M_over_148 rfl (lv_at hl 4 rfl) ?_
                refine va_lald hx hb hK hP 2 0 rfl rfl (mam_in c_1 ha) d_M_over_149 ?_
                refine lv_aload_n hx hb d_M_over_150 rfl (lv_at hl 3 rfl) ?_
                refine va_get (D := (dC, dI)) (ci := 2) (v := .ref m1) (C := R_M) (T := F_M) (N := 11) hx hb hg in_M hown hK hP 0 rfl rfl 2 (by decide) (hg _ wg_268) (fun _ h9 => h9) rfl d_M_over_151 ?_
                refine lv_iload_n hx hb d_M_over_154 rfl (lv_at hl 5 rfl) ?_
                refine va_lald hx hb hK hP 1 0 rfl rfl (mam_in c_2 ha) d_M_over_155 ?_
                refine lv_lmul hx hb d_M_over_156 ?_
                refine lv_iload hx hb d_M_over_157 (lv_at hl 0 rfl) ?_
                have hPc := hP.sub (ws' := [(g, .inr (2, [.int 0, .int am, .ref m1, .ref m2, .ref m3, .ref m4, .ref m5, .ref m6, .ref m7, .int wc, .ref m8])), (m1, .inl (cJ, 500, .inr (.inl up))), (m2, .inl (cJ, 500, .inr (.inl dn))), (m3, .inl (cI, 500, .inl mu))]) [0, 1, 2, 3] rfl
                have hDc := hD.sub (ws' := [(g, .inr (2, [.int 0, .int am, .ref m1, .ref m2, .ref m3, .ref m4, .ref m5, .ref m6, .ref m7, .int wc, .ref m8])), (m1, .inl (cJ, 500, .inr (.inl up))), (m2, .inl (cJ, 500, .inr (.inl dn))), (m3, .inl (cI, 500, .inl mu))]) [0, 1, 2, 3] (by decide) rfl
                have hFc := va_free (wc := [(g, .inr (2, [.int 0, .int am, .ref m1, .ref m2, .ref m3, .ref m4, .ref m5, .ref m6, .ref m7, .int wc, .ref m8])), (m1, .inl (cJ, 500, .inr (.inl up))), (m2, .inl (cJ, 500, .inr (.inl dn))), (m3, .inl (cI, 500, .inl mu))]) hD hS hA [0, 1, 2, 3] rfl
                refine va_calli (va_runV (As := [.long ((up a.toNatClampNeg) * (dn b.toNatClampNeg)), .long ((dn a.toNatClampNeg) * (up b.toNatClampNeg)), .int v_3]) (rest := []) ⟨hx, hb, hml, hown, hg⟩ (k_M_make l dC dI cJ cI cT g m1 m2 m3 m4 m5 m6 m7 m8 0 am wc up dn mu ((up a.toNatClampNeg) * (dn b.toNatClampNeg)) ((dn a.toNatClampNeg) * (up b.toNatClampNeg)) v_3 _ ha0 ha (hq c_1 c_2 c_48)) (q_V 3 hg wg_300 wg_298 wg_299 wg_10 wg_15 rfl rfl (by decide +kernel) ⟨Nat.le_of_ble_eq_true rfl, Nat.le_of_ble_eq_true rfl⟩) ⟨wx_blind, va_recv hK hPc (ci := 2) (q0 := 0) rfl rfl, wx_pre (as := .ref g :: [.long ((up a.toNatClampNeg) * (dn b.toNatClampNeg)), .long ((dn a.toNatClampNeg) * (up b.toNatClampNeg)), .int v_3]) hPc hK hDc⟩ rfl rfl hl.1 rfl (lv_room (Nat.le_of_ble_eq_true rfl)) d_M_over_159 ⟨Nat.le_of_ble_eq_true rfl, Nat.le_of_ble_eq_true rfl⟩) hS (fun q _ h => hFc q h) hFc (fun r_54 u t H1 locs ht hvm hw_55 hB hz1 hk1 hS => ?_)
                obtain ⟨up_50, dn_51, mu_52, am_53⟩ := u
                obtain ⟨hP1, hK1, hD1⟩ := hB
                rw [ht] at hP1
                obtain ⟨hP, hD⟩ := va_join (wr := []) (w1 := [(g, .inr (2, [.int 0, .int am_53, .ref m1, .ref m2, .ref m3, .ref m4, .ref m5, .ref m6, .ref m7, .int wc, .ref m8])), (m1, .inl (cJ, 500, .inr (.inl up_50))), (m2, .inl (cJ, 500, .inr (.inl dn_51))), (m3, .inl (cI, 500, .inl mu_52))]) hP hD [0, 1, 2, 3] [] rfl rfl (by decide) (by decide) hk1 hFc hP1 hD1
                generalize H1 = H at hP hS ⊢
                have hP : va_P (dC, dI) classes [(g, .inr (2, [.int 0, .int am_53, .ref m1, .ref m2, .ref m3, .ref m4, .ref m5, .ref m6, .ref m7, .int wc, .ref m8])), (m1, .inl (cJ, 500, .inr (.inl up_50))), (m2, .inl (cJ, 500, .inr (.inl dn_51))), (m3, .inl (cI, 500, .inl mu_52))] H := hP
                have hD : va_D A [(g, .inr (2, [.int 0, .int am_53, .ref m1, .ref m2, .ref m3, .ref m4, .ref m5, .ref m6, .ref m7, .int wc, .ref m8])), (m1, .inl (cJ, 500, .inr (.inl up_50))), (m2, .inl (cJ, 500, .inr (.inl dn_51))), (m3, .inl (cI, 500, .inl mu_52))] := hD
                subst ev_4
                subst ev_3
                have hP9 := hP.sub (ws' := [(g, .inr (2, [.int 0, .int am_53, .ref m1, .ref m2, .ref m3, .ref m4, .ref m5, .ref m6, .ref m7, .int wc, .ref m8])), (m1, .inl (cJ, 500, .inr (.inl up_50))), (m2, .inl (cJ, 500, .inr (.inl dn_51))), (m3, .inl (cI, 500, .inl mu_52))]) [0, 1, 2, 3] rfl
                have hD9 := hD.sub (ws' := [(g, .inr (2, [.int 0, .int am_53, .ref m1, .ref m2, .ref m3, .ref m4, .ref m5, .ref m6, .ref m7, .int wc, .ref m8])), (m1, .inl (cJ, 500, .inr (.inl up_50))), (m2, .inl (cJ, 500, .inr (.inl dn_51))), (m3, .inl (cI, 500, .inl mu_52))]) [0, 1, 2, 3] (by decide) rfl
                have hz : (r_54, (0, up_50, dn_51, mu_52, am_53)) = f_M_over up dn mu am a b := by unfold f_M_over; rw [if_neg c_1, if_neg c_2, if_neg c_5, if_pos c_6, if_neg c_47, if_neg c_48]; exact congrArg (mk5 0) hw_55
                exact W.iret (v := r_54) hx hb hr (fun t ht hW => ⟨⟨r_54, (0, up_50, dn_51, mu_52, am_53), rfl, hz, wb_of ht hW hP9 hK hD9⟩, hS.F ht⟩) hS.2.2 d_M_over_162
              · skip
                exact absurd (by decide) c_49
            · skip
              rw [lg_cmp_eq] at c_48
              refine lv_iconst (v := 1) hx hb d_M_over_111 (by decide) ?_
              refine lv_goto (tgt := 116) hx hb d_M_over_112 (by decide) ?_
              refine va_put (D := (dC, dI)) (ci := 2) (v := .int 1) (ty := .int) (C := R_M) (T := F_M) (N := 11) hx hb hg in_M tt_M tt_M_ok nn_M hown hK hP hD hS 0 rfl rfl 0 (by decide) (hg _ wg_266) (fun _ h9 => h9) rfl (by decide +kernel) rfl rfl (Nat.le_of_ble_eq_true rfl) d_M_over_116 (fun H locs hP hD hS => ?_)
              have hP : va_P (dC, dI) classes [(g, .inr (2, [.int 1, .int am, .ref m1, .ref m2, .ref m3, .ref m4, .ref m5, .ref m6, .ref m7, .int wc, .ref m8])), (m1, .inl (cJ, 500, .inr (.inl up))), (m2, .inl (cJ, 500, .inr (.inl dn))), (m3, .inl (cI, 500, .inl mu))] H := hP
              have hD : va_D A [(g, .inr (2, [.int 1, .int am, .ref m1, .ref m2, .ref m3, .ref m4, .ref m5, .ref m6, .ref m7, .int wc, .ref m8])), (m1, .inl (cJ, 500, .inr (.inl up))), (m2, .inl (cJ, 500, .inr (.inl dn))), (m3, .inl (cI, 500, .inl mu))] := hD
              refine lv_aload_n hx hb d_M_over_119 rfl (lv_at hl 3 rfl) ?_
              refine va_get (D := (dC, dI)) (ci := 2) (v := .int 1) (C := R_M) (T := F_M) (N := 11) hx hb hg in_M hown hK hP 0 rfl rfl 0 (by decide) (hg _ wg_266) (fun _ h9 => h9) rfl d_M_over_120 ?_
              refine lv_if_le (tgt := 130) hx hb d_M_over_123 (by decide) (fun c_56 => ?_) (fun c_56 => ?_)
              · skip
                exact absurd c_56 (by decide)
              · skip
                refine lv_iconst (v := 0) hx hb d_M_over_126 (by decide) ?_
                refine lv_goto (tgt := 162) hx hb d_M_over_127 (by decide) ?_
                subst ev_4
                subst ev_3
                have hP9 := hP.sub (ws' := [(g, .inr (2, [.int 1, .int am, .ref m1, .ref m2, .ref m3, .ref m4, .ref m5, .ref m6, .ref m7, .int wc, .ref m8])), (m1, .inl (cJ, 500, .inr (.inl up))), (m2, .inl (cJ, 500, .inr (.inl dn))), (m3, .inl (cI, 500, .inl mu))]) [0, 1, 2, 3] rfl
                have hD9 := hD.sub (ws' := [(g, .inr (2, [.int 1, .int am, .ref m1, .ref m2, .ref m3, .ref m4, .ref m5, .ref m6, .ref m7, .int wc, .ref m8])), (m1, .inl (cJ, 500, .inr (.inl up))), (m2, .inl (cJ, 500, .inr (.inl dn))), (m3, .inl (cI, 500, .inl mu))]) [0, 1, 2, 3] (by decide) rfl
                have hz : (0, (1, up, dn, mu, am)) = f_M_over up dn mu am a b := by unfold f_M_over; rw [if_neg c_1, if_neg c_2, if_neg c_5, if_pos c_6, if_neg c_47, if_pos c_48]
                exact W.iret (v := 0) hx hb hr (fun t ht hW => ⟨⟨0, (1, up, dn, mu, am), rfl, hz, wb_of ht hW hP9 hK hD9⟩, hS.F ht⟩) hS.2.2 d_M_over_162
          · skip
            refine lv_iconst (v := (-1)) hx hb d_M_over_97 (by decide) ?_
            subst ev_4
            subst ev_3
            have hP9 := hP.sub (ws' := [(g, .inr (2, [.int 0, .int am, .ref m1, .ref m2, .ref m3, .ref m4, .ref m5, .ref m6, .ref m7, .int wc, .ref m8])), (m1, .inl (cJ, 500, .inr (.inl up))), (m2, .inl (cJ, 500, .inr (.inl dn))), (m3, .inl (cI, 500, .inl mu))]) [0, 1, 2, 3] rfl
            have hD9 := hD.sub (ws' := [(g, .inr (2, [.int 0, .int am, .ref m1, .ref m2, .ref m3, .ref m4, .ref m5, .ref m6, .ref m7, .int wc, .ref m8])), (m1, .inl (cJ, 500, .inr (.inl up))), (m2, .inl (cJ, 500, .inr (.inl dn))), (m3, .inl (cI, 500, .inl mu))]) [0, 1, 2, 3] (by decide) rfl
            have hz : ((-1), (0, up, dn, mu, am)) = f_M_over up dn mu am a b := by unfold f_M_over; rw [if_neg c_1, if_neg c_2, if_neg c_5, if_pos c_6, if_pos c_47]
            exact W.iret (v := (-1)) hx hb hr (fun t ht hW => ⟨⟨(-1), (0, up, dn, mu, am), rfl, hz, wb_of ht hW hP9 hK hD9⟩, hS.F ht⟩) hS.2.2 d_M_over_98
      · skip
        refine lv_iconst (v := 0) hx hb d_M_over_45 (by decide) ?_
        refine lv_goto (tgt := 89) hx hb d_M_over_46 (by decide) ?_
        refine lv_istore (lv' := [(5, .int 0), (4, .int v_4), (3, .int v_3), (0, .ref g), (1, .int a), (2, .int b)]) hx hb d_M_over_89 hl (by decide) rfl (fun ls hl => ?_)
        refine lv_iload hx hb d_M_over_91 (lv_at hl 0 rfl) ?_
        refine lv_iconst (v := (-1)) hx hb d_M_over_93 (by decide) ?_
        refine lv_icmp_ne (tgt := 99) hx hb d_M_over_94 (by decide) (fun c_57 => ?_) (fun c_57 => ?_)
        · skip
          refine lv_aload_n hx hb d_M_over_99 rfl (lv_at hl 3 rfl) ?_
          refine lv_aload_n hx hb d_M_over_100 rfl (lv_at hl 3 rfl) ?_
          refine va_get (D := (dC, dI)) (ci := 2) (v := .ref m1) (C := R_M) (T := F_M) (N := 11) hx hb hg in_M hown hK hP 0 rfl rfl 2 (by decide) (hg _ wg_268) (fun _ h9 => h9) rfl d_M_over_101 ?_
          refine lv_iload_n hx hb d_M_over_104 rfl (lv_at hl 5 rfl) ?_
          refine va_lald hx hb hK hP 1 0 rfl rfl (mam_in c_2 ha) d_M_over_105 ?_
          refine lv_lconst (v := 0) hx hb d_M_over_106 (by decide) ?_
          refine W.lcmp hx hb d_M_over_107 ?_
          refine lv_if_ne (tgt := 115) hx hb d_M_over_108 (by decide) (fun c_58 => ?_) (fun c_58 => ?_)
          · skip
            rw [lg_cmp_eq] at c_58
            refine lv_iconst (v := 0) hx hb d_M_over_115 (by decide) ?_
            refine va_put (D := (dC, dI)) (ci := 2) (v := .int 0) (ty := .int) (C := R_M) (T := F_M) (N := 11) hx hb hg in_M tt_M tt_M_ok nn_M hown hK hP hD hS 0 rfl rfl 0 (by decide) (hg _ wg_266) (fun _ h9 => h9) rfl (by decide +kernel) rfl rfl (Nat.le_of_ble_eq_true rfl) d_M_over_116 (fun H locs hP hD hS => ?_)
            have hP : va_P (dC, dI) classes [(g, .inr (2, [.int 0, .int am, .ref m1, .ref m2, .ref m3, .ref m4, .ref m5, .ref m6, .ref m7, .int wc, .ref m8])), (m1, .inl (cJ, 500, .inr (.inl up))), (m2, .inl (cJ, 500, .inr (.inl dn))), (m3, .inl (cI, 500, .inl mu))] H := hP
            have hD : va_D A [(g, .inr (2, [.int 0, .int am, .ref m1, .ref m2, .ref m3, .ref m4, .ref m5, .ref m6, .ref m7, .int wc, .ref m8])), (m1, .inl (cJ, 500, .inr (.inl up))), (m2, .inl (cJ, 500, .inr (.inl dn))), (m3, .inl (cI, 500, .inl mu))] := hD
            refine lv_aload_n hx hb d_M_over_119 rfl (lv_at hl 3 rfl) ?_
            refine va_get (D := (dC, dI)) (ci := 2) (v := .int 0) (C := R_M) (T := F_M) (N := 11) hx hb hg in_M hown hK hP 0 rfl rfl 0 (by decide) (hg _ wg_266) (fun _ h9 => h9) rfl d_M_over_120 ?_
            refine lv_if_le (tgt := 130) hx hb d_M_over_123 (by decide) (fun c_59 => ?_) (fun c_59 => ?_)
            · skip
              refine lv_aload_n hx hb d_M_over_130 rfl (lv_at hl 3 rfl) ?_
              refine lv_aload_n hx hb d_M_over_131 rfl (lv_at hl 3 rfl) ?_
              refine va_get (D := (dC, dI)) (ci := 2) (v := .ref m1) (C := R_M) (T := F_M) (N := 11) hx hb hg in_M hown hK hP 0 rfl rfl 2 (by decide) (hg _ wg_268) (fun _ h9 => h9) rfl d_M_over_132 ?_
              refine lv_iload_n hx hb d_M_over_135 rfl (lv_at hl 4 rfl) ?_
              refine va_lald hx hb hK hP 1 0 rfl rfl (mam_in c_1 ha) d_M_over_136 ?_
              refine lv_aload_n hx hb d_M_over_137 rfl (lv_at hl 3 rfl) ?_
              refine va_get (D := (dC, dI)) (ci := 2) (v := .ref m2) (C := R_M) (T := F_M) (N := 11) hx hb hg in_M hown hK hP 0 rfl rfl 3 (by decide) (hg _ wg_269) (fun _ h9 => h9) rfl d_M_over_138 ?_
              refine lv_iload_n hx hb d_M_over_141 rfl (lv_at hl 5 rfl) ?_
              refine va_lald hx hb hK hP 2 0 rfl rfl (mam_in c_2 ha) d_M_over_142 ?_
              refine lv_lmul hx hb d_M_over_143 ?_
              refine lv_aload_n hx hb d_M_over_144 rfl (lv_at hl 3 rfl) ?_
              refine va_get (D := (dC, dI)) (ci := 2) (v := .ref m2) (C := R_M) (T := F_M) (N := 11) hx hb hg in_M hown hK hP 0 rfl rfl 3 (by decide) (hg _ wg_269) (fun _ h9 => h9) rfl d_M_over_145 ?_
              refine lv_iload_n hx hb d_M_over_148 rfl (lv_at hl 4 rfl) ?_
              refine va_lald hx hb hK hP 2 0 rfl rfl (mam_in c_1 ha) d_M_over_149 ?_
              refine lv_aload_n hx hb d_M_over_150 rfl (lv_at hl 3 rfl) ?_
              refine va_get (D := (dC, dI)) (ci := 2) (v := .ref m1) (C := R_M) (T := F_M) (N := 11) hx hb hg in_M hown hK hP 0 rfl rfl 2 (by decide) (hg _ wg_268) (fun _ h9 => h9) rfl d_M_over_151 ?_
              refine lv_iload_n hx hb d_M_over_154 rfl (lv_at hl 5 rfl) ?_
              refine va_lald hx hb hK hP 1 0 rfl rfl (mam_in c_2 ha) d_M_over_155 ?_
              refine lv_lmul hx hb d_M_over_156 ?_
              refine lv_iload hx hb d_M_over_157 (lv_at hl 0 rfl) ?_
              have hPc := hP.sub (ws' := [(g, .inr (2, [.int 0, .int am, .ref m1, .ref m2, .ref m3, .ref m4, .ref m5, .ref m6, .ref m7, .int wc, .ref m8])), (m1, .inl (cJ, 500, .inr (.inl up))), (m2, .inl (cJ, 500, .inr (.inl dn))), (m3, .inl (cI, 500, .inl mu))]) [0, 1, 2, 3] rfl
              have hDc := hD.sub (ws' := [(g, .inr (2, [.int 0, .int am, .ref m1, .ref m2, .ref m3, .ref m4, .ref m5, .ref m6, .ref m7, .int wc, .ref m8])), (m1, .inl (cJ, 500, .inr (.inl up))), (m2, .inl (cJ, 500, .inr (.inl dn))), (m3, .inl (cI, 500, .inl mu))]) [0, 1, 2, 3] (by decide) rfl
              have hFc := va_free (wc := [(g, .inr (2, [.int 0, .int am, .ref m1, .ref m2, .ref m3, .ref m4, .ref m5, .ref m6, .ref m7, .int wc, .ref m8])), (m1, .inl (cJ, 500, .inr (.inl up))), (m2, .inl (cJ, 500, .inr (.inl dn))), (m3, .inl (cI, 500, .inl mu))]) hD hS hA [0, 1, 2, 3] rfl
              refine va_calli (va_runV (As := [.long ((up a.toNatClampNeg) * (dn b.toNatClampNeg)), .long ((dn a.toNatClampNeg) * (up b.toNatClampNeg)), .int 0]) (rest := []) ⟨hx, hb, hml, hown, hg⟩ (k_M_make l dC dI cJ cI cT g m1 m2 m3 m4 m5 m6 m7 m8 0 am wc up dn mu ((up a.toNatClampNeg) * (dn b.toNatClampNeg)) ((dn a.toNatClampNeg) * (up b.toNatClampNeg)) 0 _ ha0 ha (hq c_1 c_2 c_58)) (q_V 3 hg wg_300 wg_298 wg_299 wg_10 wg_15 rfl rfl (by decide +kernel) ⟨Nat.le_of_ble_eq_true rfl, Nat.le_of_ble_eq_true rfl⟩) ⟨wx_blind, va_recv hK hPc (ci := 2) (q0 := 0) rfl rfl, wx_pre (as := .ref g :: [.long ((up a.toNatClampNeg) * (dn b.toNatClampNeg)), .long ((dn a.toNatClampNeg) * (up b.toNatClampNeg)), .int 0]) hPc hK hDc⟩ rfl rfl hl.1 rfl (lv_room (Nat.le_of_ble_eq_true rfl)) d_M_over_159 ⟨Nat.le_of_ble_eq_true rfl, Nat.le_of_ble_eq_true rfl⟩) hS (fun q _ h => hFc q h) hFc (fun r_64 u t H1 locs ht hvm hw_65 hB hz1 hk1 hS => ?_)
              obtain ⟨up_60, dn_61, mu_62, am_63⟩ := u
              obtain ⟨hP1, hK1, hD1⟩ := hB
              rw [ht] at hP1
              obtain ⟨hP, hD⟩ := va_join (wr := []) (w1 := [(g, .inr (2, [.int 0, .int am_63, .ref m1, .ref m2, .ref m3, .ref m4, .ref m5, .ref m6, .ref m7, .int wc, .ref m8])), (m1, .inl (cJ, 500, .inr (.inl up_60))), (m2, .inl (cJ, 500, .inr (.inl dn_61))), (m3, .inl (cI, 500, .inl mu_62))]) hP hD [0, 1, 2, 3] [] rfl rfl (by decide) (by decide) hk1 hFc hP1 hD1
              generalize H1 = H at hP hS ⊢
              have hP : va_P (dC, dI) classes [(g, .inr (2, [.int 0, .int am_63, .ref m1, .ref m2, .ref m3, .ref m4, .ref m5, .ref m6, .ref m7, .int wc, .ref m8])), (m1, .inl (cJ, 500, .inr (.inl up_60))), (m2, .inl (cJ, 500, .inr (.inl dn_61))), (m3, .inl (cI, 500, .inl mu_62))] H := hP
              have hD : va_D A [(g, .inr (2, [.int 0, .int am_63, .ref m1, .ref m2, .ref m3, .ref m4, .ref m5, .ref m6, .ref m7, .int wc, .ref m8])), (m1, .inl (cJ, 500, .inr (.inl up_60))), (m2, .inl (cJ, 500, .inr (.inl dn_61))), (m3, .inl (cI, 500, .inl mu_62))] := hD
              subst ev_4
              subst ev_3
              have hP9 := hP.sub (ws' := [(g, .inr (2, [.int 0, .int am_63, .ref m1, .ref m2, .ref m3, .ref m4, .ref m5, .ref m6, .ref m7, .int wc, .ref m8])), (m1, .inl (cJ, 500, .inr (.inl up_60))), (m2, .inl (cJ, 500, .inr (.inl dn_61))), (m3, .inl (cI, 500, .inl mu_62))]) [0, 1, 2, 3] rfl
              have hD9 := hD.sub (ws' := [(g, .inr (2, [.int 0, .int am_63, .ref m1, .ref m2, .ref m3, .ref m4, .ref m5, .ref m6, .ref m7, .int wc, .ref m8])), (m1, .inl (cJ, 500, .inr (.inl up_60))), (m2, .inl (cJ, 500, .inr (.inl dn_61))), (m3, .inl (cI, 500, .inl mu_62))]) [0, 1, 2, 3] (by decide) rfl
              have hz : (r_64, (0, up_60, dn_61, mu_62, am_63)) = f_M_over up dn mu am a b := by unfold f_M_over; rw [if_neg c_1, if_neg c_2, if_pos c_5, if_neg c_58]; exact congrArg (mk5 0) hw_65
              exact W.iret (v := r_64) hx hb hr (fun t ht hW => ⟨⟨r_64, (0, up_60, dn_61, mu_62, am_63), rfl, hz, wb_of ht hW hP9 hK hD9⟩, hS.F ht⟩) hS.2.2 d_M_over_162
            · skip
              exact absurd (by decide) c_59
          · skip
            rw [lg_cmp_eq] at c_58
            refine lv_iconst (v := 1) hx hb d_M_over_111 (by decide) ?_
            refine lv_goto (tgt := 116) hx hb d_M_over_112 (by decide) ?_
            refine va_put (D := (dC, dI)) (ci := 2) (v := .int 1) (ty := .int) (C := R_M) (T := F_M) (N := 11) hx hb hg in_M tt_M tt_M_ok nn_M hown hK hP hD hS 0 rfl rfl 0 (by decide) (hg _ wg_266) (fun _ h9 => h9) rfl (by decide +kernel) rfl rfl (Nat.le_of_ble_eq_true rfl) d_M_over_116 (fun H locs hP hD hS => ?_)
            have hP : va_P (dC, dI) classes [(g, .inr (2, [.int 1, .int am, .ref m1, .ref m2, .ref m3, .ref m4, .ref m5, .ref m6, .ref m7, .int wc, .ref m8])), (m1, .inl (cJ, 500, .inr (.inl up))), (m2, .inl (cJ, 500, .inr (.inl dn))), (m3, .inl (cI, 500, .inl mu))] H := hP
            have hD : va_D A [(g, .inr (2, [.int 1, .int am, .ref m1, .ref m2, .ref m3, .ref m4, .ref m5, .ref m6, .ref m7, .int wc, .ref m8])), (m1, .inl (cJ, 500, .inr (.inl up))), (m2, .inl (cJ, 500, .inr (.inl dn))), (m3, .inl (cI, 500, .inl mu))] := hD
            refine lv_aload_n hx hb d_M_over_119 rfl (lv_at hl 3 rfl) ?_
            refine va_get (D := (dC, dI)) (ci := 2) (v := .int 1) (C := R_M) (T := F_M) (N := 11) hx hb hg in_M hown hK hP 0 rfl rfl 0 (by decide) (hg _ wg_266) (fun _ h9 => h9) rfl d_M_over_120 ?_
            refine lv_if_le (tgt := 130) hx hb d_M_over_123 (by decide) (fun c_66 => ?_) (fun c_66 => ?_)
            · skip
              exact absurd c_66 (by decide)
            · skip
              refine lv_iconst (v := 0) hx hb d_M_over_126 (by decide) ?_
              refine lv_goto (tgt := 162) hx hb d_M_over_127 (by decide) ?_
              subst ev_4
              subst ev_3
              have hP9 := hP.sub (ws' := [(g, .inr (2, [.int 1, .int am, .ref m1, .ref m2, .ref m3, .ref m4, .ref m5, .ref m6, .ref m7, .int wc, .ref m8])), (m1, .inl (cJ, 500, .inr (.inl up))), (m2, .inl (cJ, 500, .inr (.inl dn))), (m3, .inl (cI, 500, .inl mu))]) [0, 1, 2, 3] rfl
              have hD9 := hD.sub (ws' := [(g, .inr (2, [.int 1, .int am, .ref m1, .ref m2, .ref m3, .ref m4, .ref m5, .ref m6, .ref m7, .int wc, .ref m8])), (m1, .inl (cJ, 500, .inr (.inl up))), (m2, .inl (cJ, 500, .inr (.inl dn))), (m3, .inl (cI, 500, .inl mu))]) [0, 1, 2, 3] (by decide) rfl
              have hz : (0, (1, up, dn, mu, am)) = f_M_over up dn mu am a b := by unfold f_M_over; rw [if_neg c_1, if_neg c_2, if_pos c_5, if_pos c_58]
              exact W.iret (v := 0) hx hb hr (fun t ht hW => ⟨⟨0, (1, up, dn, mu, am), rfl, hz, wb_of ht hW hP9 hK hD9⟩, hS.F ht⟩) hS.2.2 d_M_over_162
        · skip
          exact absurd c_57 (by decide)
    · skip
      refine lv_bipush (v := (-3)) hx hb d_M_over_21 (by decide) ?_
      have hP9 := hP.sub (ws' := [(g, .inr (2, [.int 0, .int am, .ref m1, .ref m2, .ref m3, .ref m4, .ref m5, .ref m6, .ref m7, .int wc, .ref m8])), (m1, .inl (cJ, 500, .inr (.inl up))), (m2, .inl (cJ, 500, .inr (.inl dn))), (m3, .inl (cI, 500, .inl mu))]) [0, 1, 2, 3] rfl
      have hD9 := hD.sub (ws' := [(g, .inr (2, [.int 0, .int am, .ref m1, .ref m2, .ref m3, .ref m4, .ref m5, .ref m6, .ref m7, .int wc, .ref m8])), (m1, .inl (cJ, 500, .inr (.inl up))), (m2, .inl (cJ, 500, .inr (.inl dn))), (m3, .inl (cI, 500, .inl mu))]) [0, 1, 2, 3] (by decide) rfl
      have hz : ((-3), (0, up, dn, mu, am)) = f_M_over up dn mu am a b := by unfold f_M_over; rw [if_neg c_1, if_pos c_2]
      exact W.iret (v := (-3)) hx hb hr (fun t ht hW => ⟨⟨(-3), (0, up, dn, mu, am), rfl, hz, wb_of ht hW hP9 hK hD9⟩, hS.F ht⟩) hS.2.2 d_M_over_23
def f_M_round (up dn : Nat → Int64) (mu : Nat → Int32) (am : Int32) (a : Int32) (ru : Int32) (q : Int64) : Int32 × Int32 × (Nat → Int64) × (Nat → Int64) × (Nat → Int32) × Int32 := if (f_M_isAmount a am) = 0 then ((-3), (0, up, dn, mu, am)) else if ru < 0 then ((-1), (0, up, dn, mu, am)) else if 6 < ru then ((-1), (0, up, dn, mu, am)) else if q < 1 then ((-1), (0, up, dn, mu, am)) else if q ≤ 1000000000 then if ((((up a.toNatClampNeg) * q) / (dn a.toNatClampNeg)) * (dn a.toNatClampNeg)) ≤ ((up a.toNatClampNeg) * q) then if (((up a.toNatClampNeg) * q) - ((((up a.toNatClampNeg) * q) / (dn a.toNatClampNeg)) * (dn a.toNatClampNeg))) ≤ 0 then (mk5 0 (f_M_make up dn mu am (((up a.toNatClampNeg) * q) / (dn a.toNatClampNeg)) q (mu a.toNatClampNeg))) else if (f_M_isUpper ru (((up a.toNatClampNeg) * q) / (dn a.toNatClampNeg)) (((up a.toNatClampNeg) * q) - ((((up a.toNatClampNeg) * q) / (dn a.toNatClampNeg)) * (dn a.toNatClampNeg))) (dn a.toNatClampNeg)) = 0 then (mk5 0 (f_M_make up dn mu am (((up a.toNatClampNeg) * q) / (dn a.toNatClampNeg)) q (mu a.toNatClampNeg))) else (mk5 0 (f_M_make up dn mu am ((((up a.toNatClampNeg) * q) / (dn a.toNatClampNeg)) + 1) q (mu a.toNatClampNeg))) else if (((up a.toNatClampNeg) * q) - (((((up a.toNatClampNeg) * q) / (dn a.toNatClampNeg)) - 1) * (dn a.toNatClampNeg))) ≤ 0 then (mk5 0 (f_M_make up dn mu am ((((up a.toNatClampNeg) * q) / (dn a.toNatClampNeg)) - 1) q (mu a.toNatClampNeg))) else if (f_M_isUpper ru ((((up a.toNatClampNeg) * q) / (dn a.toNatClampNeg)) - 1) (((up a.toNatClampNeg) * q) - (((((up a.toNatClampNeg) * q) / (dn a.toNatClampNeg)) - 1) * (dn a.toNatClampNeg))) (dn a.toNatClampNeg)) = 0 then (mk5 0 (f_M_make up dn mu am ((((up a.toNatClampNeg) * q) / (dn a.toNatClampNeg)) - 1) q (mu a.toNatClampNeg))) else (mk5 0 (f_M_make up dn mu am (((((up a.toNatClampNeg) * q) / (dn a.toNatClampNeg)) - 1) + 1) q (mu a.toNatClampNeg))) else ((-1), (0, up, dn, mu, am))
set_option maxHeartbeats 4000000 in
set_option maxRecDepth 100000 in
theorem k_M_round (l : Launch) (dC : Nat → ClassId) (dI : Nat → Nat → Nat) (cJ cI cT : ClassId) (g m1 m2 m3 m4 m5 m6 m7 m8 : Nat) (cd am wc : Int32) (up dn : Nat → Int64) (mu : Nat → Int32) (a : Int32) (ru : Int32) (q : Int64) (sz : Nat) (ha0 : 0 ≤ am.toInt) (ha : am.toInt ≤ (500 : Nat)) (hd : ¬ f_M_isAmount a am = 0 → ¬ dn a.toNatClampNeg = 0) : Met l y_M_round w_M_round ({ frames := 2, cells := 0, slots := 0, locals := 60 }) (va_Pc [.ref g, .int a, .int ru, .long q] (wx dC dI cJ cI cT sz [(g, .inr (2, [.int cd, .int am, .ref m1, .ref m2, .ref m3, .ref m4, .ref m5, .ref m6, .ref m7, .int wc, .ref m8])), (m1, .inl (cJ, 500, .inr (.inl up))), (m2, .inl (cJ, 500, .inr (.inl dn))), (m3, .inl (cI, 500, .inl mu))])) (va_Qi (fun (r9 : Int32) (u9 : Int32 × (Nat → Int64) × (Nat → Int64) × (Nat → Int32) × Int32) => (r9, u9) = f_M_round up dn mu am a ru q) (fun u => wb dC dI cJ cI cT (va_A [(g, .inr (2, [.int cd, .int am, .ref m1, .ref m2, .ref m3, .ref m4, .ref m5, .ref m6, .ref m7, .int wc, .ref m8])), (m1, .inl (cJ, 500, .inr (.inl up))), (m2, .inl (cJ, 500, .inr (.inl dn))), (m3, .inl (cI, 500, .inl mu))] sz) [(g, .inr (2, [.int u.1, .int u.2.2.2.2, .ref m1, .ref m2, .ref m3, .ref m4, .ref m5, .ref m6, .ref m7, .int wc, .ref m8])), (m1, .inl (cJ, 500, .inr (.inl u.2.1))), (m2, .inl (cJ, 500, .inr (.inl u.2.2.1))), (m3, .inl (cI, 500, .inl u.2.2.2.1))]) (va_A [(g, .inr (2, [.int cd, .int am, .ref m1, .ref m2, .ref m3, .ref m4, .ref m5, .ref m6, .ref m7, .int wc, .ref m8])), (m1, .inl (cJ, 500, .inr (.inl up))), (m2, .inl (cJ, 500, .inr (.inl dn))), (m3, .inl (cI, 500, .inl mu))] sz)) 0 0 (va_A [(g, .inr (2, [.int cd, .int am, .ref m1, .ref m2, .ref m3, .ref m4, .ref m5, .ref m6, .ref m7, .int wc, .ref m8])), (m1, .inl (cJ, 500, .inr (.inl up))), (m2, .inl (cJ, 500, .inr (.inl dn))), (m3, .inl (cI, 500, .inl mu))] sz) := by
  refine Met.ofW (cc := c_M_round) (maxL := 11) (ret := (Option.some Jvm.ClassFile.FieldType.int)) (by decide) rfl ?_
  intro p e s m args below meth c s₁ B hml hv
  obtain ⟨rfl, hsz, hP, hK, hD0⟩ := hv
  have hx := B.exec
  have hb := B.bytes
  have hr := B.returns
  have hts := atoms_spec (ws := w_M_round) B.pre
  have hg : ∀ w ∈ WG, w.before _ s = true := fun w h => hts w (List.mem_cons_of_mem _ h)
  have hown : s.vm.findClass R_M = some m.cls := findClass_of_methodNamed B.named
  have hlocks := B.notSynchronized
  have hl := lv_entry ([.ref g, .int a, .int ru, .long q]) (n := 11) (Nat.le_of_ble_eq_true rfl)
  rw [lg_entry_eq]
  generalize (lg_sl ([.ref g, .int a, .int ru, .long q]) ++ List.replicate (11 - (lg_sl ([.ref g, .int a, .int ru, .long q])).length) Slot.unset).toArray = ls at hl ⊢
  have hl : lv_has ls 11 [(0, .ref g), (1, .int a), (2, .int ru), (3, .long q)] := hl
  subst hsz
  have hD := hD0.self (sz := s.heap.size)
  generalize hAe : va_A [(g, .inr (2, [.int cd, .int am, .ref m1, .ref m2, .ref m3, .ref m4, .ref m5, .ref m6, .ref m7, .int wc, .ref m8])), (m1, .inl (cJ, 500, .inr (.inl up))), (m2, .inl (cJ, 500, .inr (.inl dn))), (m3, .inl (cI, 500, .inl mu))] s.heap.size = A at hD ⊢
  have hA : ∀ q : Nat, s.heap.size ≤ q → A q := fun q h => by rw [← hAe]; exact Or.inr h
  have hS : va_S A s.heap s.heap [] := va_S.rf
  have hP : va_P (dC, dI) classes [(g, .inr (2, [.int cd, .int am, .ref m1, .ref m2, .ref m3, .ref m4, .ref m5, .ref m6, .ref m7, .int wc, .ref m8])), (m1, .inl (cJ, 500, .inr (.inl up))), (m2, .inl (cJ, 500, .inr (.inl dn))), (m3, .inl (cI, 500, .inl mu))] s.heap := hP
  have hD : va_D A [(g, .inr (2, [.int cd, .int am, .ref m1, .ref m2, .ref m3, .ref m4, .ref m5, .ref m6, .ref m7, .int wc, .ref m8])), (m1, .inl (cJ, 500, .inr (.inl up))), (m2, .inl (cJ, 500, .inr (.inl dn))), (m3, .inl (cI, 500, .inl mu))] := hD
  skip
  refine lv_aload_n hx hb d_M_round_0 rfl (lv_at hl 0 rfl) ?_
  refine lv_iconst (v := 0) hx hb d_M_round_1 (by decide) ?_
  refine va_put (D := (dC, dI)) (ci := 2) (v := .int 0) (ty := .int) (C := R_M) (T := F_M) (N := 11) hx hb hg in_M tt_M tt_M_ok nn_M hown hK hP hD hS 0 rfl rfl 0 (by decide) (hg _ wg_266) (fun _ h9 => h9) rfl (by decide +kernel) rfl rfl (Nat.le_of_ble_eq_true rfl) d_M_round_2 (fun H locs hP hD hS => ?_)
  have hP : va_P (dC, dI) classes [(g, .inr (2, [.int 0, .int am, .ref m1, .ref m2, .ref m3, .ref m4, .ref m5, .ref m6, .ref m7, .int wc, .ref m8])), (m1, .inl (cJ, 500, .inr (.inl up))), (m2, .inl (cJ, 500, .inr (.inl dn))), (m3, .inl (cI, 500, .inl mu))] H := hP
  have hD : va_D A [(g, .inr (2, [.int 0, .int am, .ref m1, .ref m2, .ref m3, .ref m4, .ref m5, .ref m6, .ref m7, .int wc, .ref m8])), (m1, .inl (cJ, 500, .inr (.inl up))), (m2, .inl (cJ, 500, .inr (.inl dn))), (m3, .inl (cI, 500, .inl mu))] := hD
  refine lv_aload_n hx hb d_M_round_5 rfl (lv_at hl 0 rfl) ?_
  refine lv_iload_n hx hb d_M_round_6 rfl (lv_at hl 1 rfl) ?_
  have hPc := hP.sub (ws' := [(g, .inr (2, [.int 0, .int am, .ref m1, .ref m2, .ref m3, .ref m4, .ref m5, .ref m6, .ref m7, .int wc, .ref m8]))]) [0] rfl
  refine W.callV (W.runV (As := [.int a]) (rest := []) ⟨hx, hb, hml, hown, hg⟩ (k_M_isAmount l dC dI cJ cI cT g m1 m2 m3 m4 m5 m6 m7 m8 0 am wc a) (q_V 1 hg wg_312 wg_310 wg_311 wg_11 wg_15 rfl rfl (by decide +kernel) ⟨Nat.le_of_ble_eq_true rfl, Nat.le_of_ble_eq_true rfl⟩) ⟨wd_blind, va_recv hK hPc (ci := 2) (q0 := 0) rfl rfl, wd_pre (as := .ref g :: [.int a]) hPc hK⟩ rfl rfl hl.1 rfl (lv_room (Nat.le_of_ble_eq_true rfl)) d_M_round_7 ⟨Nat.le_of_ble_eq_true rfl, Nat.le_of_ble_eq_true rfl⟩) ?_
  refine W.eq (g2 := F0 m 10 ls (.int (f_M_isAmount a am) :: [])) rfl ?_
  refine lv_if_ne (tgt := 16) hx hb d_M_round_10 (by decide) (fun c_1 => ?_) (fun c_1 => ?_)
  · skip
    refine lv_iload_n hx hb d_M_round_16 rfl (lv_at hl 2 rfl) ?_
    refine lv_if_lt (tgt := 40) hx hb d_M_round_17 (by decide) (fun c_2 => ?_) (fun c_2 => ?_)
    · skip
      refine lv_iconst (v := (-1)) hx hb d_M_round_40 (by decide) ?_
      have hP9 := hP.sub (ws' := [(g, .inr (2, [.int 0, .int am, .ref m1, .ref m2, .ref m3, .ref m4, .ref m5, .ref m6, .ref m7, .int wc, .ref m8])), (m1, .inl (cJ, 500, .inr (.inl up))), (m2, .inl (cJ, 500, .inr (.inl dn))), (m3, .inl (cI, 500, .inl mu))]) [0, 1, 2, 3] rfl
      have hD9 := hD.sub (ws' := [(g, .inr (2, [.int 0, .int am, .ref m1, .ref m2, .ref m3, .ref m4, .ref m5, .ref m6, .ref m7, .int wc, .ref m8])), (m1, .inl (cJ, 500, .inr (.inl up))), (m2, .inl (cJ, 500, .inr (.inl dn))), (m3, .inl (cI, 500, .inl mu))]) [0, 1, 2, 3] (by decide) rfl
      have hz : ((-1), (0, up, dn, mu, am)) = f_M_round up dn mu am a ru q := by unfold f_M_round; rw [if_neg c_1, if_pos c_2]
      exact W.iret (v := (-1)) hx hb hr (fun t ht hW => ⟨⟨(-1), (0, up, dn, mu, am), rfl, hz, wb_of ht hW hP9 hK hD9⟩, hS.F ht⟩) hS.2.2 d_M_round_41
    · skip
      refine lv_iload_n hx hb d_M_round_20 rfl (lv_at hl 2 rfl) ?_
      refine lv_bipush (v := 6) hx hb d_M_round_21 (by decide) ?_
      refine lv_icmp_gt (tgt := 40) hx hb d_M_round_23 (by decide) (fun c_3 => ?_) (fun c_3 => ?_)
      · skip
        refine lv_iconst (v := (-1)) hx hb d_M_round_40 (by decide) ?_
        have hP9 := hP.sub (ws' := [(g, .inr (2, [.int 0, .int am, .ref m1, .ref m2, .ref m3, .ref m4, .ref m5, .ref m6, .ref m7, .int wc, .ref m8])), (m1, .inl (cJ, 500, .inr (.inl up))), (m2, .inl (cJ, 500, .inr (.inl dn))), (m3, .inl (cI, 500, .inl mu))]) [0, 1, 2, 3] rfl
        have hD9 := hD.sub (ws' := [(g, .inr (2, [.int 0, .int am, .ref m1, .ref m2, .ref m3, .ref m4, .ref m5, .ref m6, .ref m7, .int wc, .ref m8])), (m1, .inl (cJ, 500, .inr (.inl up))), (m2, .inl (cJ, 500, .inr (.inl dn))), (m3, .inl (cI, 500, .inl mu))]) [0, 1, 2, 3] (by decide) rfl
        have hz : ((-1), (0, up, dn, mu, am)) = f_M_round up dn mu am a ru q := by unfold f_M_round; rw [if_neg c_1, if_neg c_2, if_pos c_3]
        exact W.iret (v := (-1)) hx hb hr (fun t ht hW => ⟨⟨(-1), (0, up, dn, mu, am), rfl, hz, wb_of ht hW hP9 hK hD9⟩, hS.F ht⟩) hS.2.2 d_M_round_41
      · skip
        refine lv_lload_n hx hb d_M_round_26 rfl (lv_at hl 3 rfl) ?_
        refine lv_lconst (v := 1) hx hb d_M_round_27 (by decide) ?_
        refine W.lcmp hx hb d_M_round_28 ?_
        refine lv_if_lt (tgt := 40) hx hb d_M_round_29 (by decide) (fun c_4 => ?_) (fun c_4 => ?_)
        · skip
          rw [lg_cmp_lt] at c_4
          refine lv_iconst (v := (-1)) hx hb d_M_round_40 (by decide) ?_
          have hP9 := hP.sub (ws' := [(g, .inr (2, [.int 0, .int am, .ref m1, .ref m2, .ref m3, .ref m4, .ref m5, .ref m6, .ref m7, .int wc, .ref m8])), (m1, .inl (cJ, 500, .inr (.inl up))), (m2, .inl (cJ, 500, .inr (.inl dn))), (m3, .inl (cI, 500, .inl mu))]) [0, 1, 2, 3] rfl
          have hD9 := hD.sub (ws' := [(g, .inr (2, [.int 0, .int am, .ref m1, .ref m2, .ref m3, .ref m4, .ref m5, .ref m6, .ref m7, .int wc, .ref m8])), (m1, .inl (cJ, 500, .inr (.inl up))), (m2, .inl (cJ, 500, .inr (.inl dn))), (m3, .inl (cI, 500, .inl mu))]) [0, 1, 2, 3] (by decide) rfl
          have hz : ((-1), (0, up, dn, mu, am)) = f_M_round up dn mu am a ru q := by unfold f_M_round; rw [if_neg c_1, if_neg c_2, if_neg c_3, if_pos c_4]
          exact W.iret (v := (-1)) hx hb hr (fun t ht hW => ⟨⟨(-1), (0, up, dn, mu, am), rfl, hz, wb_of ht hW hP9 hK hD9⟩, hS.F ht⟩) hS.2.2 d_M_round_41
        · skip
          rw [lg_cmp_lt] at c_4
          refine lv_lload_n hx hb d_M_round_32 rfl (lv_at hl 3 rfl) ?_
          refine lv_ldc2 (v := 1000000000) hx hb hown (hg _ wg_328) d_M_round_33 ?_
          refine W.lcmp hx hb d_M_round_36 ?_
          refine lv_if_le (tgt := 42) hx hb d_M_round_37 (by decide) (fun c_5 => ?_) (fun c_5 => ?_)
          · skip
            rw [lg_cmp_le] at c_5
            refine lv_aload_n hx hb d_M_round_42 rfl (lv_at hl 0 rfl) ?_
            refine va_get (D := (dC, dI)) (ci := 2) (v := .ref m1) (C := R_M) (T := F_M) (N := 11) hx hb hg in_M hown hK hP 0 rfl rfl 2 (by decide) (hg _ wg_268) (fun _ h9 => h9) rfl d_M_round_43 ?_
            refine lv_iload_n hx hb d_M_round_46 rfl (lv_at hl 1 rfl) ?_
            refine va_lald hx hb hK hP 1 0 rfl rfl (mam_in c_1 ha) d_M_round_47 ?_
            refine lv_lload_n hx hb d_M_round_48 rfl (lv_at hl 3 rfl) ?_
            refine lv_lmul hx hb d_M_round_49 ?_
            refine lv_topl (fun v_6 ev_6 => ?_)
            refine lv_lstore (lv' := [(5, .long v_6), (0, .ref g), (1, .int a), (2, .int ru), (3, .long q)]) hx hb d_M_round_50 hl (by decide) rfl (fun ls hl => ?_)
            refine lv_lload hx hb d_M_round_52 (lv_at hl 0 rfl) ?_
            refine lv_aload_n hx hb d_M_round_54 rfl (lv_at hl 1 rfl) ?_
            refine va_get (D := (dC, dI)) (ci := 2) (v := .ref m2) (C := R_M) (T := F_M) (N := 11) hx hb hg in_M hown hK hP 0 rfl rfl 3 (by decide) (hg _ wg_269) (fun _ h9 => h9) rfl d_M_round_55 ?_
            refine lv_iload_n hx hb d_M_round_58 rfl (lv_at hl 2 rfl) ?_
            refine va_lald hx hb hK hP 2 0 rfl rfl (mam_in c_1 ha) d_M_round_59 ?_
            refine lv_ldiv hx hb d_M_round_60 (hd c_1) ?_
            refine lv_topl (fun v_7 ev_7 => ?_)
            refine lv_lstore (lv' := [(7, .long v_7), (5, .long v_6), (0, .ref g), (1, .int a), (2, .int ru), (3, .long q)]) hx hb d_M_round_61 hl (by decide) rfl (fun ls hl => ?_)
            refine lv_lload hx hb d_M_round_63 (lv_at hl 0 rfl) ?_
            refine lv_aload_n hx hb d_M_round_65 rfl (lv_at hl 2 rfl) ?_
            refine va_get (D := (dC, dI)) (ci := 2) (v := .ref m2) (C := R_M) (T := F_M) (N := 11) hx hb hg in_M hown hK hP 0 rfl rfl 3 (by decide) (hg _ wg_269) (fun _ h9 => h9) rfl d_M_round_66 ?_
            refine lv_iload_n hx hb d_M_round_69 rfl (lv_at hl 3 rfl) ?_
            refine va_lald hx hb hK hP 2 0 rfl rfl (mam_in c_1 ha) d_M_round_70 ?_
            refine lv_lmul hx hb d_M_round_71 ?_
            refine lv_lload hx hb d_M_round_72 (lv_at hl 1 rfl) ?_
            refine W.lcmp hx hb d_M_round_74 ?_
            refine lv_if_le (tgt := 85) hx hb d_M_round_75 (by decide) (fun c_8 => ?_) (fun c_8 => ?_)
            · skip
              rw [lg_cmp_le] at c_8
              refine lv_lload hx hb d_M_round_85 (lv_at hl 0 rfl) ?_
              refine lv_lstore (lv' := [(7, .long v_7), (5, .long v_6), (0, .ref g), (1, .int a), (2, .int ru), (3, .long q)]) hx hb d_M_round_87 hl (by decide) rfl (fun ls hl => ?_)
              refine lv_lload hx hb d_M_round_89 (lv_at hl 1 rfl) ?_
              refine lv_lload hx hb d_M_round_91 (lv_at hl 0 rfl) ?_
              refine lv_aload_n hx hb d_M_round_93 rfl (lv_at hl 2 rfl) ?_
              refine va_get (D := (dC, dI)) (ci := 2) (v := .ref m2) (C := R_M) (T := F_M) (N := 11) hx hb hg in_M hown hK hP 0 rfl rfl 3 (by decide) (hg _ wg_269) (fun _ h9 => h9) rfl d_M_round_94 ?_
              refine lv_iload_n hx hb d_M_round_97 rfl (lv_at hl 3 rfl) ?_
              refine va_lald hx hb hK hP 2 0 rfl rfl (mam_in c_1 ha) d_M_round_98 ?_
              refine lv_lmul hx hb d_M_round_99 ?_
              refine lv_lsub hx hb d_M_round_100 ?_
              refine lv_topl (fun v_9 ev_9 => ?_)
              refine lv_lstore (lv' := [(9, .long v_9), (7, .long v_7), (5, .long v_6), (0, .ref g), (1, .int a), (2, .int ru), (3, .long q)]) hx hb d_M_round_101 hl (by decide) rfl (fun ls hl => ?_)
              refine lv_aload_n hx hb d_M_round_103 rfl (lv_at hl 3 rfl) ?_
              refine lv_lload hx hb d_M_round_104 (lv_at hl 0 rfl) ?_
              refine lv_lconst (v := 0) hx hb d_M_round_106 (by decide) ?_
              refine W.lcmp hx hb d_M_round_107 ?_
              refine lv_if_le (tgt := 135) hx hb d_M_round_108 (by decide) (fun c_10 => ?_) (fun c_10 => ?_)
              · skip
                rw [lg_cmp_le] at c_10
                refine lv_lload hx hb d_M_round_135 (lv_at hl 1 rfl) ?_
                refine lv_lload_n hx hb d_M_round_137 rfl (lv_at hl 6 rfl) ?_
                refine lv_aload_n hx hb d_M_round_138 rfl (lv_at hl 3 rfl) ?_
                refine va_get (D := (dC, dI)) (ci := 2) (v := .ref m3) (C := R_M) (T := F_M) (N := 11) hx hb hg in_M hown hK hP 0 rfl rfl 4 (by decide) (hg _ wg_270) (fun _ h9 => h9) rfl d_M_round_139 ?_
                refine lv_iload_n hx hb d_M_round_142 rfl (lv_at hl 4 rfl) ?_
                refine va_iald hx hb hK hP 3 1 rfl rfl (mam_in c_1 ha) d_M_round_143 ?_
                have hPc := hP.sub (ws' := [(g, .inr (2, [.int 0, .int am, .ref m1, .ref m2, .ref m3, .ref m4, .ref m5, .ref m6, .ref m7, .int wc, .ref m8])), (m1, .inl (cJ, 500, .inr (.inl up))), (m2, .inl (cJ, 500, .inr (.inl dn))), (m3, .inl (cI, 500, .inl mu))]) [0, 1, 2, 3] rfl
                have hDc := hD.sub (ws' := [(g, .inr (2, [.int 0, .int am, .ref m1, .ref m2, .ref m3, .ref m4, .ref m5, .ref m6, .ref m7, .int wc, .ref m8])), (m1, .inl (cJ, 500, .inr (.inl up))), (m2, .inl (cJ, 500, .inr (.inl dn))), (m3, .inl (cI, 500, .inl mu))]) [0, 1, 2, 3] (by decide) rfl
                have hFc := va_free (wc := [(g, .inr (2, [.int 0, .int am, .ref m1, .ref m2, .ref m3, .ref m4, .ref m5, .ref m6, .ref m7, .int wc, .ref m8])), (m1, .inl (cJ, 500, .inr (.inl up))), (m2, .inl (cJ, 500, .inr (.inl dn))), (m3, .inl (cI, 500, .inl mu))]) hD hS hA [0, 1, 2, 3] rfl
                refine va_calli (va_runV (As := [.long v_7, .long q, .int (mu a.toNatClampNeg)]) (rest := []) ⟨hx, hb, hml, hown, hg⟩ (k_M_make l dC dI cJ cI cT g m1 m2 m3 m4 m5 m6 m7 m8 0 am wc up dn mu v_7 q (mu a.toNatClampNeg) _ ha0 ha (nz_pos c_4)) (q_V 3 hg wg_300 wg_298 wg_299 wg_10 wg_15 rfl rfl (by decide +kernel) ⟨Nat.le_of_ble_eq_true rfl, Nat.le_of_ble_eq_true rfl⟩) ⟨wx_blind, va_recv hK hPc (ci := 2) (q0 := 0) rfl rfl, wx_pre (as := .ref g :: [.long v_7, .long q, .int (mu a.toNatClampNeg)]) hPc hK hDc⟩ rfl rfl hl.1 rfl (lv_room (Nat.le_of_ble_eq_true rfl)) d_M_round_144 ⟨Nat.le_of_ble_eq_true rfl, Nat.le_of_ble_eq_true rfl⟩) hS (fun q _ h => hFc q h) hFc (fun r_15 u t H1 locs ht hvm hw_16 hB hz1 hk1 hS => ?_)
                obtain ⟨up_11, dn_12, mu_13, am_14⟩ := u
                obtain ⟨hP1, hK1, hD1⟩ := hB
                rw [ht] at hP1
                obtain ⟨hP, hD⟩ := va_join (wr := []) (w1 := [(g, .inr (2, [.int 0, .int am_14, .ref m1, .ref m2, .ref m3, .ref m4, .ref m5, .ref m6, .ref m7, .int wc, .ref m8])), (m1, .inl (cJ, 500, .inr (.inl up_11))), (m2, .inl (cJ, 500, .inr (.inl dn_12))), (m3, .inl (cI, 500, .inl mu_13))]) hP hD [0, 1, 2, 3] [] rfl rfl (by decide) (by decide) hk1 hFc hP1 hD1
                generalize H1 = H at hP hS ⊢
                have hP : va_P (dC, dI) classes [(g, .inr (2, [.int 0, .int am_14, .ref m1, .ref m2, .ref m3, .ref m4, .ref m5, .ref m6, .ref m7, .int wc, .ref m8])), (m1, .inl (cJ, 500, .inr (.inl up_11))), (m2, .inl (cJ, 500, .inr (.inl dn_12))), (m3, .inl (cI, 500, .inl mu_13))] H := hP
                have hD : va_D A [(g, .inr (2, [.int 0, .int am_14, .ref m1, .ref m2, .ref m3, .ref m4, .ref m5, .ref m6, .ref m7, .int wc, .ref m8])), (m1, .inl (cJ, 500, .inr (.inl up_11))), (m2, .inl (cJ, 500, .inr (.inl dn_12))), (m3, .inl (cI, 500, .inl mu_13))] := hD
                subst ev_9
                subst ev_7
                subst ev_6
                have hP9 := hP.sub (ws' := [(g, .inr (2, [.int 0, .int am_14, .ref m1, .ref m2, .ref m3, .ref m4, .ref m5, .ref m6, .ref m7, .int wc, .ref m8])), (m1, .inl (cJ, 500, .inr (.inl up_11))), (m2, .inl (cJ, 500, .inr (.inl dn_12))), (m3, .inl (cI, 500, .inl mu_13))]) [0, 1, 2, 3] rfl
                have hD9 := hD.sub (ws' := [(g, .inr (2, [.int 0, .int am_14, .ref m1, .ref m2, .ref m3, .ref m4, .ref m5, .ref m6, .ref m7, .int wc, .ref m8])), (m1, .inl (cJ, 500, .inr (.inl up_11))), (m2, .inl (cJ, 500, .inr (.inl dn_12))), (m3, .inl (cI, 500, .inl mu_13))]) [0, 1, 2, 3] (by decide) rfl
                have hz : (r_15, (0, up_11, dn_12, mu_13, am_14)) = f_M_round up dn mu am a ru q := by unfold f_M_round; rw [if_neg c_1, if_neg c_2, if_neg c_3, if_neg c_4, if_pos c_5, if_pos c_8, if_pos c_10]; exact congrArg (mk5 0) hw_16
                exact W.iret (v := r_15) hx hb hr (fun t ht hW => ⟨⟨r_15, (0, up_11, dn_12, mu_13, am_14), rfl, hz, wb_of ht hW hP9 hK hD9⟩, hS.F ht⟩) hS.2.2 d_M_round_147
              · skip
                rw [lg_cmp_le] at c_10
                refine lv_iload_n hx hb d_M_round_111 rfl (lv_at hl 5 rfl) ?_
                refine lv_lload hx hb d_M_round_112 (lv_at hl 1 rfl) ?_
                refine lv_lload hx hb d_M_round_114 (lv_at hl 0 rfl) ?_
                refine lv_aload_n hx hb d_M_round_116 rfl (lv_at hl 3 rfl) ?_
                refine va_get (D := (dC, dI)) (ci := 2) (v := .ref m2) (C := R_M) (T := F_M) (N := 11) hx hb hg in_M hown hK hP 0 rfl rfl 3 (by decide) (hg _ wg_269) (fun _ h9 => h9) rfl d_M_round_117 ?_
                refine lv_iload_n hx hb d_M_round_120 rfl (lv_at hl 4 rfl) ?_
                refine va_lald hx hb hK hP 2 0 rfl rfl (mam_in c_1 ha) d_M_round_121 ?_
                refine W.callV (W.runS (As := [.int ru, .long v_7, .long v_9, .long (dn a.toNatClampNeg)]) (rest := [.ref g]) ⟨hx, hb, hml, hown, hg⟩ (k_M_isUpper l ru v_7 v_9 (dn a.toNatClampNeg)) (q_S 4 hg wg_331 wg_329 wg_330 wg_15 rfl rfl (by decide +kernel) ⟨Nat.le_of_ble_eq_true rfl, Nat.le_of_ble_eq_true rfl⟩) ⟨nw_blind, fun _ _ _ => ⟨rfl, trivial⟩⟩ rfl rfl hl.1 rfl (lv_room (Nat.le_of_ble_eq_true rfl)) d_M_round_122 ⟨Nat.le_of_ble_eq_true rfl, Nat.le_of_ble_eq_true rfl⟩) ?_
                refine W.eq (g2 := F0 m 125 ls (.int (f_M_isUpper ru v_7 v_9 (dn a.toNatClampNeg)) :: [.ref g])) rfl ?_
                refine lv_if_eq (tgt := 135) hx hb d_M_round_125 (by decide) (fun c_17 => ?_) (fun c_17 => ?_)
                · skip
                  refine lv_lload hx hb d_M_round_135 (lv_at hl 1 rfl) ?_
                  refine lv_lload_n hx hb d_M_round_137 rfl (lv_at hl 6 rfl) ?_
                  refine lv_aload_n hx hb d_M_round_138 rfl (lv_at hl 3 rfl) ?_
                  refine va_get (D := (dC, dI)) (ci := 2) (v := .ref m3) (C := R_M) (T := F_M) (N := 11) hx hb hg in_M hown hK hP 0 rfl rfl 4 (by decide) (hg _ wg_270) (fun _ h9 => h9) rfl d_M_round_139 ?_
                  refine lv_iload_n hx hb d_M_round_142 rfl (lv_at hl 4 rfl) ?_
                  refine va_iald hx hb hK hP 3 1 rfl rfl (mam_in c_1 ha) d_M_round_143 ?_
                  have hPc := hP.sub (ws' := [(g, .inr (2, [.int 0, .int am, .ref m1, .ref m2, .ref m3, .ref m4, .ref m5, .ref m6, .ref m7, .int wc, .ref m8])), (m1, .inl (cJ, 500, .inr (.inl up))), (m2, .inl (cJ, 500, .inr (.inl dn))), (m3, .inl (cI, 500, .inl mu))]) [0, 1, 2, 3] rfl
                  have hDc := hD.sub (ws' := [(g, .inr (2, [.int 0, .int am, .ref m1, .ref m2, .ref m3, .ref m4, .ref m5, .ref m6, .ref m7, .int wc, .ref m8])), (m1, .inl (cJ, 500, .inr (.inl up))), (m2, .inl (cJ, 500, .inr (.inl dn))), (m3, .inl (cI, 500, .inl mu))]) [0, 1, 2, 3] (by decide) rfl
                  have hFc := va_free (wc := [(g, .inr (2, [.int 0, .int am, .ref m1, .ref m2, .ref m3, .ref m4, .ref m5, .ref m6, .ref m7, .int wc, .ref m8])), (m1, .inl (cJ, 500, .inr (.inl up))), (m2, .inl (cJ, 500, .inr (.inl dn))), (m3, .inl (cI, 500, .inl mu))]) hD hS hA [0, 1, 2, 3] rfl
                  refine va_calli (va_runV (As := [.long v_7, .long q, .int (mu a.toNatClampNeg)]) (rest := []) ⟨hx, hb, hml, hown, hg⟩ (k_M_make l dC dI cJ cI cT g m1 m2 m3 m4 m5 m6 m7 m8 0 am wc up dn mu v_7 q (mu a.toNatClampNeg) _ ha0 ha (nz_pos c_4)) (q_V 3 hg wg_300 wg_298 wg_299 wg_10 wg_15 rfl rfl (by decide +kernel) ⟨Nat.le_of_ble_eq_true rfl, Nat.le_of_ble_eq_true rfl⟩) ⟨wx_blind, va_recv hK hPc (ci := 2) (q0 := 0) rfl rfl, wx_pre (as := .ref g :: [.long v_7, .long q, .int (mu a.toNatClampNeg)]) hPc hK hDc⟩ rfl rfl hl.1 rfl (lv_room (Nat.le_of_ble_eq_true rfl)) d_M_round_144 ⟨Nat.le_of_ble_eq_true rfl, Nat.le_of_ble_eq_true rfl⟩) hS (fun q _ h => hFc q h) hFc (fun r_22 u t H1 locs ht hvm hw_23 hB hz1 hk1 hS => ?_)
                  obtain ⟨up_18, dn_19, mu_20, am_21⟩ := u
                  obtain ⟨hP1, hK1, hD1⟩ := hB
                  rw [ht] at hP1
                  obtain ⟨hP, hD⟩ := va_join (wr := []) (w1 := [(g, .inr (2, [.int 0, .int am_21, .ref m1, .ref m2, .ref m3, .ref m4, .ref m5, .ref m6, .ref m7, .int wc, .ref m8])), (m1, .inl (cJ, 500, .inr (.inl up_18))), (m2, .inl (cJ, 500, .inr (.inl dn_19))), (m3, .inl (cI, 500, .inl mu_20))]) hP hD [0, 1, 2, 3] [] rfl rfl (by decide) (by decide) hk1 hFc hP1 hD1
                  generalize H1 = H at hP hS ⊢
                  have hP : va_P (dC, dI) classes [(g, .inr (2, [.int 0, .int am_21, .ref m1, .ref m2, .ref m3, .ref m4, .ref m5, .ref m6, .ref m7, .int wc, .ref m8])), (m1, .inl (cJ, 500, .inr (.inl up_18))), (m2, .inl (cJ, 500, .inr (.inl dn_19))), (m3, .inl (cI, 500, .inl mu_20))] H := hP
                  have hD : va_D A [(g, .inr (2, [.int 0, .int am_21, .ref m1, .ref m2, .ref m3, .ref m4, .ref m5, .ref m6, .ref m7, .int wc, .ref m8])), (m1, .inl (cJ, 500, .inr (.inl up_18))), (m2, .inl (cJ, 500, .inr (.inl dn_19))), (m3, .inl (cI, 500, .inl mu_20))] := hD
                  subst ev_9
                  subst ev_7
                  subst ev_6
                  have hP9 := hP.sub (ws' := [(g, .inr (2, [.int 0, .int am_21, .ref m1, .ref m2, .ref m3, .ref m4, .ref m5, .ref m6, .ref m7, .int wc, .ref m8])), (m1, .inl (cJ, 500, .inr (.inl up_18))), (m2, .inl (cJ, 500, .inr (.inl dn_19))), (m3, .inl (cI, 500, .inl mu_20))]) [0, 1, 2, 3] rfl
                  have hD9 := hD.sub (ws' := [(g, .inr (2, [.int 0, .int am_21, .ref m1, .ref m2, .ref m3, .ref m4, .ref m5, .ref m6, .ref m7, .int wc, .ref m8])), (m1, .inl (cJ, 500, .inr (.inl up_18))), (m2, .inl (cJ, 500, .inr (.inl dn_19))), (m3, .inl (cI, 500, .inl mu_20))]) [0, 1, 2, 3] (by decide) rfl
                  have hz : (r_22, (0, up_18, dn_19, mu_20, am_21)) = f_M_round up dn mu am a ru q := by unfold f_M_round; rw [if_neg c_1, if_neg c_2, if_neg c_3, if_neg c_4, if_pos c_5, if_pos c_8, if_neg c_10, if_pos c_17]; exact congrArg (mk5 0) hw_23
                  exact W.iret (v := r_22) hx hb hr (fun t ht hW => ⟨⟨r_22, (0, up_18, dn_19, mu_20, am_21), rfl, hz, wb_of ht hW hP9 hK hD9⟩, hS.F ht⟩) hS.2.2 d_M_round_147
                · skip
                  refine lv_lload hx hb d_M_round_128 (lv_at hl 1 rfl) ?_
                  refine lv_lconst (v := 1) hx hb d_M_round_130 (by decide) ?_
                  refine lv_ladd hx hb d_M_round_131 ?_
                  refine lv_goto (tgt := 137) hx hb d_M_round_132 (by decide) ?_
                  refine lv_lload_n hx hb d_M_round_137 rfl (lv_at hl 6 rfl) ?_
                  refine lv_aload_n hx hb d_M_round_138 rfl (lv_at hl 3 rfl) ?_
                  refine va_get (D := (dC, dI)) (ci := 2) (v := .ref m3) (C := R_M) (T := F_M) (N := 11) hx hb hg in_M hown hK hP 0 rfl rfl 4 (by decide) (hg _ wg_270) (fun _ h9 => h9) rfl d_M_round_139 ?_
                  refine lv_iload_n hx hb d_M_round_142 rfl (lv_at hl 4 rfl) ?_
                  refine va_iald hx hb hK hP 3 1 rfl rfl (mam_in c_1 ha) d_M_round_143 ?_
                  have hPc := hP.sub (ws' := [(g, .inr (2, [.int 0, .int am, .ref m1, .ref m2, .ref m3, .ref m4, .ref m5, .ref m6, .ref m7, .int wc, .ref m8])), (m1, .inl (cJ, 500, .inr (.inl up))), (m2, .inl (cJ, 500, .inr (.inl dn))), (m3, .inl (cI, 500, .inl mu))]) [0, 1, 2, 3] rfl
                  have hDc := hD.sub (ws' := [(g, .inr (2, [.int 0, .int am, .ref m1, .ref m2, .ref m3, .ref m4, .ref m5, .ref m6, .ref m7, .int wc, .ref m8])), (m1, .inl (cJ, 500, .inr (.inl up))), (m2, .inl (cJ, 500, .inr (.inl dn))), (m3, .inl (cI, 500, .inl mu))]) [0, 1, 2, 3] (by decide) rfl
                  have hFc := va_free (wc := [(g, .inr (2, [.int 0, .int am, .ref m1, .ref m2, .ref m3, .ref m4, .ref m5, .ref m6, .ref m7, .int wc, .ref m8])), (m1, .inl (cJ, 500, .inr (.inl up))), (m2, .inl (cJ, 500, .inr (.inl dn))), (m3, .inl (cI, 500, .inl mu))]) hD hS hA [0, 1, 2, 3] rfl
                  refine va_calli (va_runV (As := [.long (v_7 + 1), .long q, .int (mu a.toNatClampNeg)]) (rest := []) ⟨hx, hb, hml, hown, hg⟩ (k_M_make l dC dI cJ cI cT g m1 m2 m3 m4 m5 m6 m7 m8 0 am wc up dn mu (v_7 + 1) q (mu a.toNatClampNeg) _ ha0 ha (nz_pos c_4)) (q_V 3 hg wg_300 wg_298 wg_299 wg_10 wg_15 rfl rfl (by decide +kernel) ⟨Nat.le_of_ble_eq_true rfl, Nat.le_of_ble_eq_true rfl⟩) ⟨wx_blind, va_recv hK hPc (ci := 2) (q0 := 0) rfl rfl, wx_pre (as := .ref g :: [.long (v_7 + 1), .long q, .int (mu a.toNatClampNeg)]) hPc hK hDc⟩ rfl rfl hl.1 rfl (lv_room (Nat.le_of_ble_eq_true rfl)) d_M_round_144 ⟨Nat.le_of_ble_eq_true rfl, Nat.le_of_ble_eq_true rfl⟩) hS (fun q _ h => hFc q h) hFc (fun r_28 u t H1 locs ht hvm hw_29 hB hz1 hk1 hS => ?_)
                  obtain ⟨up_24, dn_25, mu_26, am_27⟩ := u
                  obtain ⟨hP1, hK1, hD1⟩ := hB
                  rw [ht] at hP1
                  obtain ⟨hP, hD⟩ := va_join (wr := []) (w1 := [(g, .inr (2, [.int 0, .int am_27, .ref m1, .ref m2, .ref m3, .ref m4, .ref m5, .ref m6, .ref m7, .int wc, .ref m8])), (m1, .inl (cJ, 500, .inr (.inl up_24))), (m2, .inl (cJ, 500, .inr (.inl dn_25))), (m3, .inl (cI, 500, .inl mu_26))]) hP hD [0, 1, 2, 3] [] rfl rfl (by decide) (by decide) hk1 hFc hP1 hD1
                  generalize H1 = H at hP hS ⊢
                  have hP : va_P (dC, dI) classes [(g, .inr (2, [.int 0, .int am_27, .ref m1, .ref m2, .ref m3, .ref m4, .ref m5, .ref m6, .ref m7, .int wc, .ref m8])), (m1, .inl (cJ, 500, .inr (.inl up_24))), (m2, .inl (cJ, 500, .inr (.inl dn_25))), (m3, .inl (cI, 500, .inl mu_26))] H := hP
                  have hD : va_D A [(g, .inr (2, [.int 0, .int am_27, .ref m1, .ref m2, .ref m3, .ref m4, .ref m5, .ref m6, .ref m7, .int wc, .ref m8])), (m1, .inl (cJ, 500, .inr (.inl up_24))), (m2, .inl (cJ, 500, .inr (.inl dn_25))), (m3, .inl (cI, 500, .inl mu_26))] := hD
                  subst ev_9
                  subst ev_7
                  subst ev_6
                  have hP9 := hP.sub (ws' := [(g, .inr (2, [.int 0, .int am_27, .ref m1, .ref m2, .ref m3, .ref m4, .ref m5, .ref m6, .ref m7, .int wc, .ref m8])), (m1, .inl (cJ, 500, .inr (.inl up_24))), (m2, .inl (cJ, 500, .inr (.inl dn_25))), (m3, .inl (cI, 500, .inl mu_26))]) [0, 1, 2, 3] rfl
                  have hD9 := hD.sub (ws' := [(g, .inr (2, [.int 0, .int am_27, .ref m1, .ref m2, .ref m3, .ref m4, .ref m5, .ref m6, .ref m7, .int wc, .ref m8])), (m1, .inl (cJ, 500, .inr (.inl up_24))), (m2, .inl (cJ, 500, .inr (.inl dn_25))), (m3, .inl (cI, 500, .inl mu_26))]) [0, 1, 2, 3] (by decide) rfl
                  have hz : (r_28, (0, up_24, dn_25, mu_26, am_27)) = f_M_round up dn mu am a ru q := by unfold f_M_round; rw [if_neg c_1, if_neg c_2, if_neg c_3, if_neg c_4, if_pos c_5, if_pos c_8, if_neg c_10, if_neg c_17]; exact congrArg (mk5 0) hw_29
                  exact W.iret (v := r_28) hx hb hr (fun t ht hW => ⟨⟨r_28, (0, up_24, dn_25, mu_26, am_27), rfl, hz, wb_of ht hW hP9 hK hD9⟩, hS.F ht⟩) hS.2.2 d_M_round_147
            · skip
              rw [lg_cmp_le] at c_8
              refine lv_lload hx hb d_M_round_78 (lv_at hl 0 rfl) ?_
              refine lv_lconst (v := 1) hx hb d_M_round_80 (by decide) ?_
              refine lv_lsub hx hb d_M_round_81 ?_
              refine lv_goto (tgt := 87) hx hb d_M_round_82 (by decide) ?_
              refine lv_topl (fun v_30 ev_30 => ?_)
              refine lv_lstore (lv' := [(7, .long v_30), (5, .long v_6), (0, .ref g), (1, .int a), (2, .int ru), (3, .long q)]) hx hb d_M_round_87 hl (by decide) rfl (fun ls hl => ?_)
              refine lv_lload hx hb d_M_round_89 (lv_at hl 1 rfl) ?_
              refine lv_lload hx hb d_M_round_91 (lv_at hl 0 rfl) ?_
              refine lv_aload_n hx hb d_M_round_93 rfl (lv_at hl 2 rfl) ?_
              refine va_get (D := (dC, dI)) (ci := 2) (v := .ref m2) (C := R_M) (T := F_M) (N := 11) hx hb hg in_M hown hK hP 0 rfl rfl 3 (by decide) (hg _ wg_269) (fun _ h9 => h9) rfl d_M_round_94 ?_
              refine lv_iload_n hx hb d_M_round_97 rfl (lv_at hl 3 rfl) ?_
              refine va_lald hx hb hK hP 2 0 rfl rfl (mam_in c_1 ha) d_M_round_98 ?_
              refine lv_lmul hx hb d_M_round_99 ?_
              refine lv_lsub hx hb d_M_round_100 ?_
              refine lv_topl (fun v_31 ev_31 => ?_)
              refine lv_lstore (lv' := [(9, .long v_31), (7, .long v_30), (5, .long v_6), (0, .ref g), (1, .int a), (2, .int ru), (3, .long q)]) hx hb d_M_round_101 hl (by decide) rfl (fun ls hl => ?_)
              refine lv_aload_n hx hb d_M_round_103 rfl (lv_at hl 3 rfl) ?_
              refine lv_lload hx hb d_M_round_104 (lv_at hl 0 rfl) ?_
              refine lv_lconst (v := 0) hx hb d_M_round_106 (by decide) ?_
              refine W.lcmp hx hb d_M_round_107 ?_
              refine lv_if_le (tgt := 135) hx hb d_M_round_108 (by decide) (fun c_32 => ?_) (fun c_32 => ?_)
              · skip
                rw [lg_cmp_le] at c_32
                refine lv_lload hx hb d_M_round_135 (lv_at hl 1 rfl) ?_
                refine lv_lload_n hx hb d_M_round_137 rfl (lv_at hl 6 rfl) ?_
                refine lv_aload_n hx hb d_M_round_138 rfl (lv_at hl 3 rfl) ?_
                refine va_get (D := (dC, dI)) (ci := 2) (v := .ref m3) (C := R_M) (T := F_M) (N := 11) hx hb hg in_M hown hK hP 0 rfl rfl 4 (by decide) (hg _ wg_270) (fun _ h9 => h9) rfl d_M_round_139 ?_
                refine lv_iload_n hx hb d_M_round_142 rfl (lv_at hl 4 rfl) ?_
                refine va_iald hx hb hK hP 3 1 rfl rfl (mam_in c_1 ha) d_M_round_143 ?_
                have hPc := hP.sub (ws' := [(g, .inr (2, [.int 0, .int am, .ref m1, .ref m2, .ref m3, .ref m4, .ref m5, .ref m6, .ref m7, .int wc, .ref m8])), (m1, .inl (cJ, 500, .inr (.inl up))), (m2, .inl (cJ, 500, .inr (.inl dn))), (m3, .inl (cI, 500, .inl mu))]) [0, 1, 2, 3] rfl
                have hDc := hD.sub (ws' := [(g, .inr (2, [.int 0, .int am, .ref m1, .ref m2, .ref m3, .ref m4, .ref m5, .ref m6, .ref m7, .int wc, .ref m8])), (m1, .inl (cJ, 500, .inr (.inl up))), (m2, .inl (cJ, 500, .inr (.inl dn))), (m3, .inl (cI, 500, .inl mu))]) [0, 1, 2, 3] (by decide) rfl
                have hFc := va_free (wc := [(g, .inr (2, [.int 0, .int am, .ref m1, .ref m2, .ref m3, .ref m4, .ref m5, .ref m6, .ref m7, .int wc, .ref m8])), (m1, .inl (cJ, 500, .inr (.inl up))), (m2, .inl (cJ, 500, .inr (.inl dn))), (m3, .inl (cI, 500, .inl mu))]) hD hS hA [0, 1, 2, 3] rfl
                refine va_calli (va_runV (As := [.long v_30, .long q, .int (mu a.toNatClampNeg)]) (rest := []) ⟨hx, hb, hml, hown, hg⟩ (k_M_make l dC dI cJ cI cT g m1 m2 m3 m4 m5 m6 m7 m8 0 am wc up dn mu v_30 q (mu a.toNatClampNeg) _ ha0 ha (nz_pos c_4)) (q_V 3 hg wg_300 wg_298 wg_299 wg_10 wg_15 rfl rfl (by decide +kernel) ⟨Nat.le_of_ble_eq_true rfl, Nat.le_of_ble_eq_true rfl⟩) ⟨wx_blind, va_recv hK hPc (ci := 2) (q0 := 0) rfl rfl, wx_pre (as := .ref g :: [.long v_30, .long q, .int (mu a.toNatClampNeg)]) hPc hK hDc⟩ rfl rfl hl.1 rfl (lv_room (Nat.le_of_ble_eq_true rfl)) d_M_round_144 ⟨Nat.le_of_ble_eq_true rfl, Nat.le_of_ble_eq_true rfl⟩) hS (fun q _ h => hFc q h) hFc (fun r_37 u t H1 locs ht hvm hw_38 hB hz1 hk1 hS => ?_)
                obtain ⟨up_33, dn_34, mu_35, am_36⟩ := u
                obtain ⟨hP1, hK1, hD1⟩ := hB
                rw [ht] at hP1
                obtain ⟨hP, hD⟩ := va_join (wr := []) (w1 := [(g, .inr (2, [.int 0, .int am_36, .ref m1, .ref m2, .ref m3, .ref m4, .ref m5, .ref m6, .ref m7, .int wc, .ref m8])), (m1, .inl (cJ, 500, .inr (.inl up_33))), (m2, .inl (cJ, 500, .inr (.inl dn_34))), (m3, .inl (cI, 500, .inl mu_35))]) hP hD [0, 1, 2, 3] [] rfl rfl (by decide) (by decide) hk1 hFc hP1 hD1
                generalize H1 = H at hP hS ⊢
                have hP : va_P (dC, dI) classes [(g, .inr (2, [.int 0, .int am_36, .ref m1, .ref m2, .ref m3, .ref m4, .ref m5, .ref m6, .ref m7, .int wc, .ref m8])), (m1, .inl (cJ, 500, .inr (.inl up_33))), (m2, .inl (cJ, 500, .inr (.inl dn_34))), (m3, .inl (cI, 500, .inl mu_35))] H := hP
                have hD : va_D A [(g, .inr (2, [.int 0, .int am_36, .ref m1, .ref m2, .ref m3, .ref m4, .ref m5, .ref m6, .ref m7, .int wc, .ref m8])), (m1, .inl (cJ, 500, .inr (.inl up_33))), (m2, .inl (cJ, 500, .inr (.inl dn_34))), (m3, .inl (cI, 500, .inl mu_35))] := hD
                subst ev_31
                subst ev_30
                subst ev_7
                subst ev_6
                have hP9 := hP.sub (ws' := [(g, .inr (2, [.int 0, .int am_36, .ref m1, .ref m2, .ref m3, .ref m4, .ref m5, .ref m6, .ref m7, .int wc, .ref m8])), (m1, .inl (cJ, 500, .inr (.inl up_33))), (m2, .inl (cJ, 500, .inr (.inl dn_34))), (m3, .inl (cI, 500, .inl mu_35))]) [0, 1, 2, 3] rfl
                have hD9 := hD.sub (ws' := [(g, .inr (2, [.int 0, .int am_36, .ref m1, .ref m2, .ref m3, .ref m4, .ref m5, .ref m6, .ref m7, .int wc, .ref m8])), (m1, .inl (cJ, 500, .inr (.inl up_33))), (m2, .inl (cJ, 500, .inr (.inl dn_34))), (m3, .inl (cI, 500, .inl mu_35))]) [0, 1, 2, 3] (by decide) rfl
                have hz : (r_37, (0, up_33, dn_34, mu_35, am_36)) = f_M_round up dn mu am a ru q := by unfold f_M_round; rw [if_neg c_1, if_neg c_2, if_neg c_3, if_neg c_4, if_pos c_5, if_neg c_8, if_pos c_32]; exact congrArg (mk5 0) hw_38
                exact W.iret (v := r_37) hx hb hr (fun t ht hW => ⟨⟨r_37, (0, up_33, dn_34, mu_35, am_36), rfl, hz, wb_of ht hW hP9 hK hD9⟩, hS.F ht⟩) hS.2.2 d_M_round_147
              · skip
                rw [lg_cmp_le] at c_32
                refine lv_iload_n hx hb d_M_round_111 rfl (lv_at hl 5 rfl) ?_
                refine lv_lload hx hb d_M_round_112 (lv_at hl 1 rfl) ?_
                refine lv_lload hx hb d_M_round_114 (lv_at hl 0 rfl) ?_
                refine lv_aload_n hx hb d_M_round_116 rfl (lv_at hl 3 rfl) ?_
                refine va_get (D := (dC, dI)) (ci := 2) (v := .ref m2) (C := R_M) (T := F_M) (N := 11) hx hb hg in_M hown hK hP 0 rfl rfl 3 (by decide) (hg _ wg_269) (fun _ h9 => h9) rfl d_M_round_117 ?_
                refine lv_iload_n hx hb d_M_round_120 rfl (lv_at hl 4 rfl) ?_
                refine va_lald hx hb hK hP 2 0 rfl rfl (mam_in c_1 ha) d_M_round_121 ?_
                refine W.callV (W.runS (As := [.int ru, .long v_30, .long v_31, .long (dn a.toNatClampNeg)]) (rest := [.ref g]) ⟨hx, hb, hml, hown, hg⟩ (k_M_isUpper l ru v_30 v_31 (dn a.toNatClampNeg)) (q_S 4 hg wg_331 wg_329 wg_330 wg_15 rfl rfl (by decide +kernel) ⟨Nat.le_of_ble_eq_true rfl, Nat.le_of_ble_eq_true rfl⟩) ⟨nw_blind, fun _ _ _ => ⟨rfl, trivial⟩⟩ rfl rfl hl.1 rfl (lv_room (Nat.le_of_ble_eq_true rfl)) d_M_round_122 ⟨Nat.le_of_ble_eq_true rfl, Nat.le_of_ble_eq_true rfl⟩) ?_
                refine W.eq (g2 := F0 m 125 ls (.int (f_M_isUpper ru v_30 v_31 (dn a.toNatClampNeg)) :: [.ref g])) rfl ?_
                refine lv_if_eq (tgt := 135) hx hb d_M_round_125 (by decide) (fun c_39 => ?_) (fun c_39 => ?_)
                · skip
                  refine lv_lload hx hb d_M_round_135 (lv_at hl 1 rfl) ?_
                  refine lv_lload_n hx hb d_M_round_137 rfl (lv_at hl 6 rfl) ?_
                  refine lv_aload_n hx hb d_M_round_138 rfl (lv_at hl 3 rfl) ?_
                  refine va_get (D := (dC, dI)) (ci := 2) (v := .ref m3) (C := R_M) (T := F_M) (N := 11) hx hb hg in_M hown hK hP 0 rfl rfl 4 (by decide) (hg _ wg_270) (fun _ h9 => h9) rfl d_M_round_139 ?_
                  refine lv_iload_n hx hb d_M_round_142 rfl (lv_at hl 4 rfl) ?_
                  refine va_iald hx hb hK hP 3 1 rfl rfl (mam_in c_1 ha) d_M_round_143 ?_
                  have hPc := hP.sub (ws' := [(g, .inr (2, [.int 0, .int am, .ref m1, .ref m2, .ref m3, .ref m4, .ref m5, .ref m6, .ref m7, .int wc, .ref m8])), (m1, .inl (cJ, 500, .inr (.inl up))), (m2, .inl (cJ, 500, .inr (.inl dn))), (m3, .inl (cI, 500, .inl mu))]) [0, 1, 2, 3] rfl
                  have hDc := hD.sub (ws' := [(g, .inr (2, [.int 0, .int am, .ref m1, .ref m2, .ref m3, .ref m4, .ref m5, .ref m6, .ref m7, .int wc, .ref m8])), (m1, .inl (cJ, 500, .inr (.inl up))), (m2, .inl (cJ, 500, .inr (.inl dn))), (m3, .inl (cI, 500, .inl mu))]) [0, 1, 2, 3] (by decide) rfl
                  have hFc := va_free (wc := [(g, .inr (2, [.int 0, .int am, .ref m1, .ref m2, .ref m3, .ref m4, .ref m5, .ref m6, .ref m7, .int wc, .ref m8])), (m1, .inl (cJ, 500, .inr (.inl up))), (m2, .inl (cJ, 500, .inr (.inl dn))), (m3, .inl (cI, 500, .inl mu))]) hD hS hA [0, 1, 2, 3] rfl
                  refine va_calli (va_runV (As := [.long v_30, .long q, .int (mu a.toNatClampNeg)]) (rest := []) ⟨hx, hb, hml, hown, hg⟩ (k_M_make l dC dI cJ cI cT g m1 m2 m3 m4 m5 m6 m7 m8 0 am wc up dn mu v_30 q (mu a.toNatClampNeg) _ ha0 ha (nz_pos c_4)) (q_V 3 hg wg_300 wg_298 wg_299 wg_10 wg_15 rfl rfl (by decide +kernel) ⟨Nat.le_of_ble_eq_true rfl, Nat.le_of_ble_eq_true rfl⟩) ⟨wx_blind, va_recv hK hPc (ci := 2) (q0 := 0) rfl rfl, wx_pre (as := .ref g :: [.long v_30, .long q, .int (mu a.toNatClampNeg)]) hPc hK hDc⟩ rfl rfl hl.1 rfl (lv_room (Nat.le_of_ble_eq_true rfl)) d_M_round_144 ⟨Nat.le_of_ble_eq_true rfl, Nat.le_of_ble_eq_true rfl⟩) hS (fun q _ h => hFc q h) hFc (fun r_44 u t H1 locs ht hvm hw_45 hB hz1 hk1 hS => ?_)
                  obtain ⟨up_40, dn_41, mu_42, am_43⟩ := u
                  obtain ⟨hP1, hK1, hD1⟩ := hB
                  rw [ht] at hP1
                  obtain ⟨hP, hD⟩ := va_join (wr := []) (w1 := [(g, .inr (2, [.int 0, .int am_43, .ref m1, .ref m2, .ref m3, .ref m4, .ref m5, .ref m6, .ref m7, .int wc, .ref m8])), (m1, .inl (cJ, 500, .inr (.inl up_40))), (m2, .inl (cJ, 500, .inr (.inl dn_41))), (m3, .inl (cI, 500, .inl mu_42))]) hP hD [0, 1, 2, 3] [] rfl rfl (by decide) (by decide) hk1 hFc hP1 hD1
                  generalize H1 = H at hP hS ⊢
                  have hP : va_P (dC, dI) classes [(g, .inr (2, [.int 0, .int am_43, .ref m1, .ref m2, .ref m3, .ref m4, .ref m5, .ref m6, .ref m7, .int wc, .ref m8])), (m1, .inl (cJ, 500, .inr (.inl up_40))), (m2, .inl (cJ, 500, .inr (.inl dn_41))), (m3, .inl (cI, 500, .inl mu_42))] H := hP
                  have hD : va_D A [(g, .inr (2, [.int 0, .int am_43, .ref m1, .ref m2, .ref m3, .ref m4, .ref m5, .ref m6, .ref m7, .int wc, .ref m8])), (m1, .inl (cJ, 500, .inr (.inl up_40))), (m2, .inl (cJ, 500, .inr (.inl dn_41))), (m3, .inl (cI, 500, .inl mu_42))] := hD
                  subst ev_31
                  subst ev_30
                  subst ev_7
                  subst ev_6
                  have hP9 := hP.sub (ws' := [(g, .inr (2, [.int 0, .int am_43, .ref m1, .ref m2, .ref m3, .ref m4, .ref m5, .ref m6, .ref m7, .int wc, .ref m8])), (m1, .inl (cJ, 500, .inr (.inl up_40))), (m2, .inl (cJ, 500, .inr (.inl dn_41))), (m3, .inl (cI, 500, .inl mu_42))]) [0, 1, 2, 3] rfl
                  have hD9 := hD.sub (ws' := [(g, .inr (2, [.int 0, .int am_43, .ref m1, .ref m2, .ref m3, .ref m4, .ref m5, .ref m6, .ref m7, .int wc, .ref m8])), (m1, .inl (cJ, 500, .inr (.inl up_40))), (m2, .inl (cJ, 500, .inr (.inl dn_41))), (m3, .inl (cI, 500, .inl mu_42))]) [0, 1, 2, 3] (by decide) rfl
                  have hz : (r_44, (0, up_40, dn_41, mu_42, am_43)) = f_M_round up dn mu am a ru q := by unfold f_M_round; rw [if_neg c_1, if_neg c_2, if_neg c_3, if_neg c_4, if_pos c_5, if_neg c_8, if_neg c_32, if_pos c_39]; exact congrArg (mk5 0) hw_45
                  exact W.iret (v := r_44) hx hb hr (fun t ht hW => ⟨⟨r_44, (0, up_40, dn_41, mu_42, am_43), rfl, hz, wb_of ht hW hP9 hK hD9⟩, hS.F ht⟩) hS.2.2 d_M_round_147
                · skip
                  refine lv_lload hx hb d_M_round_128 (lv_at hl 1 rfl) ?_
                  refine lv_lconst (v := 1) hx hb d_M_round_130 (by decide) ?_
                  refine lv_ladd hx hb d_M_round_131 ?_
                  refine lv_goto (tgt := 137) hx hb d_M_round_132 (by decide) ?_
                  refine lv_lload_n hx hb d_M_round_137 rfl (lv_at hl 6 rfl) ?_
                  refine lv_aload_n hx hb d_M_round_138 rfl (lv_at hl 3 rfl) ?_
                  refine va_get (D := (dC, dI)) (ci := 2) (v := .ref m3) (C := R_M) (T := F_M) (N := 11) hx hb hg in_M hown hK hP 0 rfl rfl 4 (by decide) (hg _ wg_270) (fun _ h9 => h9) rfl d_M_round_139 ?_
                  refine lv_iload_n hx hb d_M_round_142 rfl (lv_at hl 4 rfl) ?_
                  refine va_iald hx hb hK hP 3 1 rfl rfl (mam_in c_1 ha) d_M_round_143 ?_
                  have hPc := hP.sub (ws' := [(g, .inr (2, [.int 0, .int am, .ref m1, .ref m2, .ref m3, .ref m4, .ref m5, .ref m6, .ref m7, .int wc, .ref m8])), (m1, .inl (cJ, 500, .inr (.inl up))), (m2, .inl (cJ, 500, .inr (.inl dn))), (m3, .inl (cI, 500, .inl mu))]) [0, 1, 2, 3] rfl
                  have hDc := hD.sub (ws' := [(g, .inr (2, [.int 0, .int am, .ref m1, .ref m2, .ref m3, .ref m4, .ref m5, .ref m6, .ref m7, .int wc, .ref m8])), (m1, .inl (cJ, 500, .inr (.inl up))), (m2, .inl (cJ, 500, .inr (.inl dn))), (m3, .inl (cI, 500, .inl mu))]) [0, 1, 2, 3] (by decide) rfl
                  have hFc := va_free (wc := [(g, .inr (2, [.int 0, .int am, .ref m1, .ref m2, .ref m3, .ref m4, .ref m5, .ref m6, .ref m7, .int wc, .ref m8])), (m1, .inl (cJ, 500, .inr (.inl up))), (m2, .inl (cJ, 500, .inr (.inl dn))), (m3, .inl (cI, 500, .inl mu))]) hD hS hA [0, 1, 2, 3] rfl
                  refine va_calli (va_runV (As := [.long (v_30 + 1), .long q, .int (mu a.toNatClampNeg)]) (rest := []) ⟨hx, hb, hml, hown, hg⟩ (k_M_make l dC dI cJ cI cT g m1 m2 m3 m4 m5 m6 m7 m8 0 am wc up dn mu (v_30 + 1) q (mu a.toNatClampNeg) _ ha0 ha (nz_pos c_4)) (q_V 3 hg wg_300 wg_298 wg_299 wg_10 wg_15 rfl rfl (by decide +kernel) ⟨Nat.le_of_ble_eq_true rfl, Nat.le_of_ble_eq_true rfl⟩) ⟨wx_blind, va_recv hK hPc (ci := 2) (q0 := 0) rfl rfl, wx_pre (as := .ref g :: [.long (v_30 + 1), .long q, .int (mu a.toNatClampNeg)]) hPc hK hDc⟩ rfl rfl hl.1 rfl (lv_room (Nat.le_of_ble_eq_true rfl)) d_M_round_144 ⟨Nat.le_of_ble_eq_true rfl, Nat.le_of_ble_eq_true rfl⟩) hS (fun q _ h => hFc q h) hFc (fun r_50 u t H1 locs ht hvm hw_51 hB hz1 hk1 hS => ?_)
                  obtain ⟨up_46, dn_47, mu_48, am_49⟩ := u
                  obtain ⟨hP1, hK1, hD1⟩ := hB
                  rw [ht] at hP1
                  obtain ⟨hP, hD⟩ := va_join (wr := []) (w1 := [(g, .inr (2, [.int 0, .int am_49, .ref m1, .ref m2, .ref m3, .ref m4, .ref m5, .ref m6, .ref m7, .int wc, .ref m8])), (m1, .inl (cJ, 500, .inr (.inl up_46))), (m2, .inl (cJ, 500, .inr (.inl dn_47))), (m3, .inl (cI, 500, .inl mu_48))]) hP hD [0, 1, 2, 3] [] rfl rfl (by decide) (by decide) hk1 hFc hP1 hD1
                  generalize H1 = H at hP hS ⊢
                  have hP : va_P (dC, dI) classes [(g, .inr (2, [.int 0, .int am_49, .ref m1, .ref m2, .ref m3, .ref m4, .ref m5, .ref m6, .ref m7, .int wc, .ref m8])), (m1, .inl (cJ, 500, .inr (.inl up_46))), (m2, .inl (cJ, 500, .inr (.inl dn_47))), (m3, .inl (cI, 500, .inl mu_48))] H := hP
                  have hD : va_D A [(g, .inr (2, [.int 0, .int am_49, .ref m1, .ref m2, .ref m3, .ref m4, .ref m5, .ref m6, .ref m7, .int wc, .ref m8])), (m1, .inl (cJ, 500, .inr (.inl up_46))), (m2, .inl (cJ, 500, .inr (.inl dn_47))), (m3, .inl (cI, 500, .inl mu_48))] := hD
                  subst ev_31
                  subst ev_30
                  subst ev_7
                  subst ev_6
                  have hP9 := hP.sub (ws' := [(g, .inr (2, [.int 0, .int am_49, .ref m1, .ref m2, .ref m3, .ref m4, .ref m5, .ref m6, .ref m7, .int wc, .ref m8])), (m1, .inl (cJ, 500, .inr (.inl up_46))), (m2, .inl (cJ, 500, .inr (.inl dn_47))), (m3, .inl (cI, 500, .inl mu_48))]) [0, 1, 2, 3] rfl
                  have hD9 := hD.sub (ws' := [(g, .inr (2, [.int 0, .int am_49, .ref m1, .ref m2, .ref m3, .ref m4, .ref m5, .ref m6, .ref m7, .int wc, .ref m8])), (m1, .inl (cJ, 500, .inr (.inl up_46))), (m2, .inl (cJ, 500, .inr (.inl dn_47))), (m3, .inl (cI, 500, .inl mu_48))]) [0, 1, 2, 3] (by decide) rfl
                  have hz : (r_50, (0, up_46, dn_47, mu_48, am_49)) = f_M_round up dn mu am a ru q := by unfold f_M_round; rw [if_neg c_1, if_neg c_2, if_neg c_3, if_neg c_4, if_pos c_5, if_neg c_8, if_neg c_32, if_neg c_39]; exact congrArg (mk5 0) hw_51
                  exact W.iret (v := r_50) hx hb hr (fun t ht hW => ⟨⟨r_50, (0, up_46, dn_47, mu_48, am_49), rfl, hz, wb_of ht hW hP9 hK hD9⟩, hS.F ht⟩) hS.2.2 d_M_round_147
          · skip
            rw [lg_cmp_le] at c_5
            refine lv_iconst (v := (-1)) hx hb d_M_round_40 (by decide) ?_
            have hP9 := hP.sub (ws' := [(g, .inr (2, [.int 0, .int am, .ref m1, .ref m2, .ref m3, .ref m4, .ref m5, .ref m6, .ref m7, .int wc, .ref m8])), (m1, .inl (cJ, 500, .inr (.inl up))), (m2, .inl (cJ, 500, .inr (.inl dn))), (m3, .inl (cI, 500, .inl mu))]) [0, 1, 2, 3] rfl
            have hD9 := hD.sub (ws' := [(g, .inr (2, [.int 0, .int am, .ref m1, .ref m2, .ref m3, .ref m4, .ref m5, .ref m6, .ref m7, .int wc, .ref m8])), (m1, .inl (cJ, 500, .inr (.inl up))), (m2, .inl (cJ, 500, .inr (.inl dn))), (m3, .inl (cI, 500, .inl mu))]) [0, 1, 2, 3] (by decide) rfl
            have hz : ((-1), (0, up, dn, mu, am)) = f_M_round up dn mu am a ru q := by unfold f_M_round; rw [if_neg c_1, if_neg c_2, if_neg c_3, if_neg c_4, if_neg c_5]
            exact W.iret (v := (-1)) hx hb hr (fun t ht hW => ⟨⟨(-1), (0, up, dn, mu, am), rfl, hz, wb_of ht hW hP9 hK hD9⟩, hS.F ht⟩) hS.2.2 d_M_round_41
  · skip
    refine lv_bipush (v := (-3)) hx hb d_M_round_13 (by decide) ?_
    have hP9 := hP.sub (ws' := [(g, .inr (2, [.int 0, .int am, .ref m1, .ref m2, .ref m3, .ref m4, .ref m5, .ref m6, .ref m7, .int wc, .ref m8])), (m1, .inl (cJ, 500, .inr (.inl up))), (m2, .inl (cJ, 500, .inr (.inl dn))), (m3, .inl (cI, 500, .inl mu))]) [0, 1, 2, 3] rfl
    have hD9 := hD.sub (ws' := [(g, .inr (2, [.int 0, .int am, .ref m1, .ref m2, .ref m3, .ref m4, .ref m5, .ref m6, .ref m7, .int wc, .ref m8])), (m1, .inl (cJ, 500, .inr (.inl up))), (m2, .inl (cJ, 500, .inr (.inl dn))), (m3, .inl (cI, 500, .inl mu))]) [0, 1, 2, 3] (by decide) rfl
    have hz : ((-3), (0, up, dn, mu, am)) = f_M_round up dn mu am a ru q := by unfold f_M_round; rw [if_pos c_1]
    exact W.iret (v := (-3)) hx hb hr (fun t ht hW => ⟨⟨(-3), (0, up, dn, mu, am), rfl, hz, wb_of ht hW hP9 hK hD9⟩, hS.F ht⟩) hS.2.2 d_M_round_15
def f_M_order (up dn : Nat → Int64) (mu : Nat → Int32) (am : Int32) (a : Int32) (b : Int32) : Int32 × Int32 × (Nat → Int64) × (Nat → Int64) × (Nat → Int32) × Int32 := if (f_M_isAmount a am) = 0 then ((-3), (0, up, dn, mu, am)) else if (f_M_isAmount b am) = 0 then ((-3), (0, up, dn, mu, am)) else if (mu a.toNatClampNeg) = (mu b.toNatClampNeg) then if 0 ≤ (((up a.toNatClampNeg) * (dn b.toNatClampNeg)) - ((up b.toNatClampNeg) * (dn a.toNatClampNeg))) then if (((up a.toNatClampNeg) * (dn b.toNatClampNeg)) - ((up b.toNatClampNeg) * (dn a.toNatClampNeg))) ≤ 0 then (0, (0, up, dn, mu, am)) else (1, (0, up, dn, mu, am)) else ((-1), (0, up, dn, mu, am)) else (2, (0, up, dn, mu, am))
set_option maxHeartbeats 4000000 in
set_option maxRecDepth 100000 in
theorem k_M_order (l : Launch) (dC : Nat → ClassId) (dI : Nat → Nat → Nat) (cJ cI cT : ClassId) (g m1 m2 m3 m4 m5 m6 m7 m8 : Nat) (cd am wc : Int32) (up dn : Nat → Int64) (mu : Nat → Int32) (a : Int32) (b : Int32) (sz : Nat) (ha0 : 0 ≤ am.toInt) (ha : am.toInt ≤ (500 : Nat)) : Met l y_M_order w_M_order ({ frames := 1, cells := 0, slots := 0, locals := 21 }) (va_Pc [.ref g, .int a, .int b] (wx dC dI cJ cI cT sz [(g, .inr (2, [.int cd, .int am, .ref m1, .ref m2, .ref m3, .ref m4, .ref m5, .ref m6, .ref m7, .int wc, .ref m8])), (m1, .inl (cJ, 500, .inr (.inl up))), (m2, .inl (cJ, 500, .inr (.inl dn))), (m3, .inl (cI, 500, .inl mu))])) (va_Qi (fun (r9 : Int32) (u9 : Int32 × (Nat → Int64) × (Nat → Int64) × (Nat → Int32) × Int32) => (r9, u9) = f_M_order up dn mu am a b) (fun u => wb dC dI cJ cI cT (va_A [(g, .inr (2, [.int cd, .int am, .ref m1, .ref m2, .ref m3, .ref m4, .ref m5, .ref m6, .ref m7, .int wc, .ref m8])), (m1, .inl (cJ, 500, .inr (.inl up))), (m2, .inl (cJ, 500, .inr (.inl dn))), (m3, .inl (cI, 500, .inl mu))] sz) [(g, .inr (2, [.int u.1, .int u.2.2.2.2, .ref m1, .ref m2, .ref m3, .ref m4, .ref m5, .ref m6, .ref m7, .int wc, .ref m8])), (m1, .inl (cJ, 500, .inr (.inl u.2.1))), (m2, .inl (cJ, 500, .inr (.inl u.2.2.1))), (m3, .inl (cI, 500, .inl u.2.2.2.1))]) (va_A [(g, .inr (2, [.int cd, .int am, .ref m1, .ref m2, .ref m3, .ref m4, .ref m5, .ref m6, .ref m7, .int wc, .ref m8])), (m1, .inl (cJ, 500, .inr (.inl up))), (m2, .inl (cJ, 500, .inr (.inl dn))), (m3, .inl (cI, 500, .inl mu))] sz)) 0 0 (va_A [(g, .inr (2, [.int cd, .int am, .ref m1, .ref m2, .ref m3, .ref m4, .ref m5, .ref m6, .ref m7, .int wc, .ref m8])), (m1, .inl (cJ, 500, .inr (.inl up))), (m2, .inl (cJ, 500, .inr (.inl dn))), (m3, .inl (cI, 500, .inl mu))] sz) := by
  refine Met.ofW (cc := c_M_order) (maxL := 5) (ret := (Option.some Jvm.ClassFile.FieldType.int)) (by decide) rfl ?_
  intro p e s m args below meth c s₁ B hml hv
  obtain ⟨rfl, hsz, hP, hK, hD0⟩ := hv
  have hx := B.exec
  have hb := B.bytes
  have hr := B.returns
  have hts := atoms_spec (ws := w_M_order) B.pre
  have hg : ∀ w ∈ WG, w.before _ s = true := fun w h => hts w (List.mem_cons_of_mem _ h)
  have hown : s.vm.findClass R_M = some m.cls := findClass_of_methodNamed B.named
  have hlocks := B.notSynchronized
  have hl := lv_entry ([.ref g, .int a, .int b]) (n := 5) (Nat.le_of_ble_eq_true rfl)
  rw [lg_entry_eq]
  generalize (lg_sl ([.ref g, .int a, .int b]) ++ List.replicate (5 - (lg_sl ([.ref g, .int a, .int b])).length) Slot.unset).toArray = ls at hl ⊢
  have hl : lv_has ls 5 [(0, .ref g), (1, .int a), (2, .int b)] := hl
  subst hsz
  have hD := hD0.self (sz := s.heap.size)
  generalize hAe : va_A [(g, .inr (2, [.int cd, .int am, .ref m1, .ref m2, .ref m3, .ref m4, .ref m5, .ref m6, .ref m7, .int wc, .ref m8])), (m1, .inl (cJ, 500, .inr (.inl up))), (m2, .inl (cJ, 500, .inr (.inl dn))), (m3, .inl (cI, 500, .inl mu))] s.heap.size = A at hD ⊢
  have hA : ∀ q : Nat, s.heap.size ≤ q → A q := fun q h => by rw [← hAe]; exact Or.inr h
  have hS : va_S A s.heap s.heap [] := va_S.rf
  have hP : va_P (dC, dI) classes [(g, .inr (2, [.int cd, .int am, .ref m1, .ref m2, .ref m3, .ref m4, .ref m5, .ref m6, .ref m7, .int wc, .ref m8])), (m1, .inl (cJ, 500, .inr (.inl up))), (m2, .inl (cJ, 500, .inr (.inl dn))), (m3, .inl (cI, 500, .inl mu))] s.heap := hP
  have hD : va_D A [(g, .inr (2, [.int cd, .int am, .ref m1, .ref m2, .ref m3, .ref m4, .ref m5, .ref m6, .ref m7, .int wc, .ref m8])), (m1, .inl (cJ, 500, .inr (.inl up))), (m2, .inl (cJ, 500, .inr (.inl dn))), (m3, .inl (cI, 500, .inl mu))] := hD
  skip
  refine lv_aload_n hx hb d_M_order_0 rfl (lv_at hl 0 rfl) ?_
  refine lv_iconst (v := 0) hx hb d_M_order_1 (by decide) ?_
  refine va_put (D := (dC, dI)) (ci := 2) (v := .int 0) (ty := .int) (C := R_M) (T := F_M) (N := 11) hx hb hg in_M tt_M tt_M_ok nn_M hown hK hP hD hS 0 rfl rfl 0 (by decide) (hg _ wg_266) (fun _ h9 => h9) rfl (by decide +kernel) rfl rfl (Nat.le_of_ble_eq_true rfl) d_M_order_2 (fun H locs hP hD hS => ?_)
  have hP : va_P (dC, dI) classes [(g, .inr (2, [.int 0, .int am, .ref m1, .ref m2, .ref m3, .ref m4, .ref m5, .ref m6, .ref m7, .int wc, .ref m8])), (m1, .inl (cJ, 500, .inr (.inl up))), (m2, .inl (cJ, 500, .inr (.inl dn))), (m3, .inl (cI, 500, .inl mu))] H := hP
  have hD : va_D A [(g, .inr (2, [.int 0, .int am, .ref m1, .ref m2, .ref m3, .ref m4, .ref m5, .ref m6, .ref m7, .int wc, .ref m8])), (m1, .inl (cJ, 500, .inr (.inl up))), (m2, .inl (cJ, 500, .inr (.inl dn))), (m3, .inl (cI, 500, .inl mu))] := hD
  refine lv_aload_n hx hb d_M_order_5 rfl (lv_at hl 0 rfl) ?_
  refine lv_iload_n hx hb d_M_order_6 rfl (lv_at hl 1 rfl) ?_
  have hPc := hP.sub (ws' := [(g, .inr (2, [.int 0, .int am, .ref m1, .ref m2, .ref m3, .ref m4, .ref m5, .ref m6, .ref m7, .int wc, .ref m8]))]) [0] rfl
  refine W.callV (W.runV (As := [.int a]) (rest := []) ⟨hx, hb, hml, hown, hg⟩ (k_M_isAmount l dC dI cJ cI cT g m1 m2 m3 m4 m5 m6 m7 m8 0 am wc a) (q_V 1 hg wg_312 wg_310 wg_311 wg_11 wg_15 rfl rfl (by decide +kernel) ⟨Nat.le_of_ble_eq_true rfl, Nat.le_of_ble_eq_true rfl⟩) ⟨wd_blind, va_recv hK hPc (ci := 2) (q0 := 0) rfl rfl, wd_pre (as := .ref g :: [.int a]) hPc hK⟩ rfl rfl hl.1 rfl (lv_room (Nat.le_of_ble_eq_true rfl)) d_M_order_7 ⟨Nat.le_of_ble_eq_true rfl, Nat.le_of_ble_eq_true rfl⟩) ?_
  refine W.eq (g2 := F0 m 10 ls (.int (f_M_isAmount a am) :: [])) rfl ?_
  refine lv_if_eq (tgt := 21) hx hb d_M_order_10 (by decide) (fun c_1 => ?_) (fun c_1 => ?_)
  · skip
    refine lv_bipush (v := (-3)) hx hb d_M_order_21 (by decide) ?_
    have hP9 := hP.sub (ws' := [(g, .inr (2, [.int 0, .int am, .ref m1, .ref m2, .ref m3, .ref m4, .ref m5, .ref m6, .ref m7, .int wc, .ref m8])), (m1, .inl (cJ, 500, .inr (.inl up))), (m2, .inl (cJ, 500, .inr (.inl dn))), (m3, .inl (cI, 500, .inl mu))]) [0, 1, 2, 3] rfl
    have hD9 := hD.sub (ws' := [(g, .inr (2, [.int 0, .int am, .ref m1, .ref m2, .ref m3, .ref m4, .ref m5, .ref m6, .ref m7, .int wc, .ref m8])), (m1, .inl (cJ, 500, .inr (.inl up))), (m2, .inl (cJ, 500, .inr (.inl dn))), (m3, .inl (cI, 500, .inl mu))]) [0, 1, 2, 3] (by decide) rfl
    have hz : ((-3), (0, up, dn, mu, am)) = f_M_order up dn mu am a b := by unfold f_M_order; rw [if_pos c_1]
    exact W.iret (v := (-3)) hx hb hr (fun t ht hW => ⟨⟨(-3), (0, up, dn, mu, am), rfl, hz, wb_of ht hW hP9 hK hD9⟩, hS.F ht⟩) hS.2.2 d_M_order_23
  · skip
    refine lv_aload_n hx hb d_M_order_13 rfl (lv_at hl 0 rfl) ?_
    refine lv_iload_n hx hb d_M_order_14 rfl (lv_at hl 2 rfl) ?_
    have hPc := hP.sub (ws' := [(g, .inr (2, [.int 0, .int am, .ref m1, .ref m2, .ref m3, .ref m4, .ref m5, .ref m6, .ref m7, .int wc, .ref m8]))]) [0] rfl
    refine W.callV (W.runV (As := [.int b]) (rest := []) ⟨hx, hb, hml, hown, hg⟩ (k_M_isAmount l dC dI cJ cI cT g m1 m2 m3 m4 m5 m6 m7 m8 0 am wc b) (q_V 1 hg wg_312 wg_310 wg_311 wg_11 wg_15 rfl rfl (by decide +kernel) ⟨Nat.le_of_ble_eq_true rfl, Nat.le_of_ble_eq_true rfl⟩) ⟨wd_blind, va_recv hK hPc (ci := 2) (q0 := 0) rfl rfl, wd_pre (as := .ref g :: [.int b]) hPc hK⟩ rfl rfl hl.1 rfl (lv_room (Nat.le_of_ble_eq_true rfl)) d_M_order_15 ⟨Nat.le_of_ble_eq_true rfl, Nat.le_of_ble_eq_true rfl⟩) ?_
    refine W.eq (g2 := F0 m 18 ls (.int (f_M_isAmount b am) :: [])) rfl ?_
    refine lv_if_ne (tgt := 24) hx hb d_M_order_18 (by decide) (fun c_2 => ?_) (fun c_2 => ?_)
    · skip
      refine lv_aload_n hx hb d_M_order_24 rfl (lv_at hl 0 rfl) ?_
      refine va_get (D := (dC, dI)) (ci := 2) (v := .ref m3) (C := R_M) (T := F_M) (N := 11) hx hb hg in_M hown hK hP 0 rfl rfl 4 (by decide) (hg _ wg_270) (fun _ h9 => h9) rfl d_M_order_25 ?_
      refine lv_iload_n hx hb d_M_order_28 rfl (lv_at hl 1 rfl) ?_
      refine va_iald hx hb hK hP 3 1 rfl rfl (mam_in c_1 ha) d_M_order_29 ?_
      refine lv_aload_n hx hb d_M_order_30 rfl (lv_at hl 0 rfl) ?_
      refine va_get (D := (dC, dI)) (ci := 2) (v := .ref m3) (C := R_M) (T := F_M) (N := 11) hx hb hg in_M hown hK hP 0 rfl rfl 4 (by decide) (hg _ wg_270) (fun _ h9 => h9) rfl d_M_order_31 ?_
      refine lv_iload_n hx hb d_M_order_34 rfl (lv_at hl 2 rfl) ?_
      refine va_iald hx hb hK hP 3 1 rfl rfl (mam_in c_2 ha) d_M_order_35 ?_
      refine lv_icmp_eq (tgt := 41) hx hb d_M_order_36 (by decide) (fun c_3 => ?_) (fun c_3 => ?_)
      · skip
        refine lv_aload_n hx hb d_M_order_41 rfl (lv_at hl 0 rfl) ?_
        refine va_get (D := (dC, dI)) (ci := 2) (v := .ref m1) (C := R_M) (T := F_M) (N := 11) hx hb hg in_M hown hK hP 0 rfl rfl 2 (by decide) (hg _ wg_268) (fun _ h9 => h9) rfl d_M_order_42 ?_
        refine lv_iload_n hx hb d_M_order_45 rfl (lv_at hl 1 rfl) ?_
        refine va_lald hx hb hK hP 1 0 rfl rfl (mam_in c_1 ha) d_M_order_46 ?_
        refine lv_aload_n hx hb d_M_order_47 rfl (lv_at hl 0 rfl) ?_
        refine va_get (D := (dC, dI)) (ci := 2) (v := .ref m2) (C := R_M) (T := F_M) (N := 11) hx hb hg in_M hown hK hP 0 rfl rfl 3 (by decide) (hg _ wg_269) (fun _ h9 => h9) rfl d_M_order_48 ?_
        refine lv_iload_n hx hb d_M_order_51 rfl (lv_at hl 2 rfl) ?_
        refine va_lald hx hb hK hP 2 0 rfl rfl (mam_in c_2 ha) d_M_order_52 ?_
        refine lv_lmul hx hb d_M_order_53 ?_
        refine lv_aload_n hx hb d_M_order_54 rfl (lv_at hl 0 rfl) ?_
        refine va_get (D := (dC, dI)) (ci := 2) (v := .ref m1) (C := R_M) (T := F_M) (N := 11) hx hb hg in_M hown hK hP 0 rfl rfl 2 (by decide) (hg _ wg_268) (fun _ h9 => h9) rfl d_M_order_55 ?_
        refine lv_iload_n hx hb d_M_order_58 rfl (lv_at hl 2 rfl) ?_
        refine va_lald hx hb hK hP 1 0 rfl rfl (mam_in c_2 ha) d_M_order_59 ?_
        refine lv_aload_n hx hb d_M_order_60 rfl (lv_at hl 0 rfl) ?_
        refine va_get (D := (dC, dI)) (ci := 2) (v := .ref m2) (C := R_M) (T := F_M) (N := 11) hx hb hg in_M hown hK hP 0 rfl rfl 3 (by decide) (hg _ wg_269) (fun _ h9 => h9) rfl d_M_order_61 ?_
        refine lv_iload_n hx hb d_M_order_64 rfl (lv_at hl 1 rfl) ?_
        refine va_lald hx hb hK hP 2 0 rfl rfl (mam_in c_1 ha) d_M_order_65 ?_
        refine lv_lmul hx hb d_M_order_66 ?_
        refine lv_lsub hx hb d_M_order_67 ?_
        refine lv_topl (fun v_4 ev_4 => ?_)
        refine lv_lstore_n (lv' := [(3, .long v_4), (0, .ref g), (1, .int a), (2, .int b)]) hx hb d_M_order_68 rfl hl (by decide) rfl (fun ls hl => ?_)
        refine lv_lload_n hx hb d_M_order_69 rfl (lv_at hl 0 rfl) ?_
        refine lv_lconst (v := 0) hx hb d_M_order_70 (by decide) ?_
        refine W.lcmp hx hb d_M_order_71 ?_
        refine lv_if_ge (tgt := 79) hx hb d_M_order_72 (by decide) (fun c_5 => ?_) (fun c_5 => ?_)
        · skip
          rw [lg_cmp_ge] at c_5
          refine lv_lload_n hx hb d_M_order_79 rfl (lv_at hl 0 rfl) ?_
          refine lv_lconst (v := 0) hx hb d_M_order_80 (by decide) ?_
          refine W.lcmp hx hb d_M_order_81 ?_
          refine lv_if_le (tgt := 89) hx hb d_M_order_82 (by decide) (fun c_6 => ?_) (fun c_6 => ?_)
          · skip
            rw [lg_cmp_le] at c_6
            refine lv_iconst (v := 0) hx hb d_M_order_89 (by decide) ?_
            subst ev_4
            have hP9 := hP.sub (ws' := [(g, .inr (2, [.int 0, .int am, .ref m1, .ref m2, .ref m3, .ref m4, .ref m5, .ref m6, .ref m7, .int wc, .ref m8])), (m1, .inl (cJ, 500, .inr (.inl up))), (m2, .inl (cJ, 500, .inr (.inl dn))), (m3, .inl (cI, 500, .inl mu))]) [0, 1, 2, 3] rfl
            have hD9 := hD.sub (ws' := [(g, .inr (2, [.int 0, .int am, .ref m1, .ref m2, .ref m3, .ref m4, .ref m5, .ref m6, .ref m7, .int wc, .ref m8])), (m1, .inl (cJ, 500, .inr (.inl up))), (m2, .inl (cJ, 500, .inr (.inl dn))), (m3, .inl (cI, 500, .inl mu))]) [0, 1, 2, 3] (by decide) rfl
            have hz : (0, (0, up, dn, mu, am)) = f_M_order up dn mu am a b := by unfold f_M_order; rw [if_neg c_1, if_neg c_2, if_pos c_3, if_pos c_5, if_pos c_6]
            exact W.iret (v := 0) hx hb hr (fun t ht hW => ⟨⟨0, (0, up, dn, mu, am), rfl, hz, wb_of ht hW hP9 hK hD9⟩, hS.F ht⟩) hS.2.2 d_M_order_90
          · skip
            rw [lg_cmp_le] at c_6
            refine lv_iconst (v := 1) hx hb d_M_order_85 (by decide) ?_
            refine lv_goto (tgt := 90) hx hb d_M_order_86 (by decide) ?_
            subst ev_4
            have hP9 := hP.sub (ws' := [(g, .inr (2, [.int 0, .int am, .ref m1, .ref m2, .ref m3, .ref m4, .ref m5, .ref m6, .ref m7, .int wc, .ref m8])), (m1, .inl (cJ, 500, .inr (.inl up))), (m2, .inl (cJ, 500, .inr (.inl dn))), (m3, .inl (cI, 500, .inl mu))]) [0, 1, 2, 3] rfl
            have hD9 := hD.sub (ws' := [(g, .inr (2, [.int 0, .int am, .ref m1, .ref m2, .ref m3, .ref m4, .ref m5, .ref m6, .ref m7, .int wc, .ref m8])), (m1, .inl (cJ, 500, .inr (.inl up))), (m2, .inl (cJ, 500, .inr (.inl dn))), (m3, .inl (cI, 500, .inl mu))]) [0, 1, 2, 3] (by decide) rfl
            have hz : (1, (0, up, dn, mu, am)) = f_M_order up dn mu am a b := by unfold f_M_order; rw [if_neg c_1, if_neg c_2, if_pos c_3, if_pos c_5, if_neg c_6]
            exact W.iret (v := 1) hx hb hr (fun t ht hW => ⟨⟨1, (0, up, dn, mu, am), rfl, hz, wb_of ht hW hP9 hK hD9⟩, hS.F ht⟩) hS.2.2 d_M_order_90
        · skip
          rw [lg_cmp_ge] at c_5
          refine lv_iconst (v := (-1)) hx hb d_M_order_75 (by decide) ?_
          refine lv_goto (tgt := 90) hx hb d_M_order_76 (by decide) ?_
          subst ev_4
          have hP9 := hP.sub (ws' := [(g, .inr (2, [.int 0, .int am, .ref m1, .ref m2, .ref m3, .ref m4, .ref m5, .ref m6, .ref m7, .int wc, .ref m8])), (m1, .inl (cJ, 500, .inr (.inl up))), (m2, .inl (cJ, 500, .inr (.inl dn))), (m3, .inl (cI, 500, .inl mu))]) [0, 1, 2, 3] rfl
          have hD9 := hD.sub (ws' := [(g, .inr (2, [.int 0, .int am, .ref m1, .ref m2, .ref m3, .ref m4, .ref m5, .ref m6, .ref m7, .int wc, .ref m8])), (m1, .inl (cJ, 500, .inr (.inl up))), (m2, .inl (cJ, 500, .inr (.inl dn))), (m3, .inl (cI, 500, .inl mu))]) [0, 1, 2, 3] (by decide) rfl
          have hz : ((-1), (0, up, dn, mu, am)) = f_M_order up dn mu am a b := by unfold f_M_order; rw [if_neg c_1, if_neg c_2, if_pos c_3, if_neg c_5]
          exact W.iret (v := (-1)) hx hb hr (fun t ht hW => ⟨⟨(-1), (0, up, dn, mu, am), rfl, hz, wb_of ht hW hP9 hK hD9⟩, hS.F ht⟩) hS.2.2 d_M_order_90
      · skip
        refine lv_iconst (v := 2) hx hb d_M_order_39 (by decide) ?_
        have hP9 := hP.sub (ws' := [(g, .inr (2, [.int 0, .int am, .ref m1, .ref m2, .ref m3, .ref m4, .ref m5, .ref m6, .ref m7, .int wc, .ref m8])), (m1, .inl (cJ, 500, .inr (.inl up))), (m2, .inl (cJ, 500, .inr (.inl dn))), (m3, .inl (cI, 500, .inl mu))]) [0, 1, 2, 3] rfl
        have hD9 := hD.sub (ws' := [(g, .inr (2, [.int 0, .int am, .ref m1, .ref m2, .ref m3, .ref m4, .ref m5, .ref m6, .ref m7, .int wc, .ref m8])), (m1, .inl (cJ, 500, .inr (.inl up))), (m2, .inl (cJ, 500, .inr (.inl dn))), (m3, .inl (cI, 500, .inl mu))]) [0, 1, 2, 3] (by decide) rfl
        have hz : (2, (0, up, dn, mu, am)) = f_M_order up dn mu am a b := by unfold f_M_order; rw [if_neg c_1, if_neg c_2, if_neg c_3]
        exact W.iret (v := 2) hx hb hr (fun t ht hW => ⟨⟨2, (0, up, dn, mu, am), rfl, hz, wb_of ht hW hP9 hK hD9⟩, hS.F ht⟩) hS.2.2 d_M_order_40
    · skip
      refine lv_bipush (v := (-3)) hx hb d_M_order_21 (by decide) ?_
      have hP9 := hP.sub (ws' := [(g, .inr (2, [.int 0, .int am, .ref m1, .ref m2, .ref m3, .ref m4, .ref m5, .ref m6, .ref m7, .int wc, .ref m8])), (m1, .inl (cJ, 500, .inr (.inl up))), (m2, .inl (cJ, 500, .inr (.inl dn))), (m3, .inl (cI, 500, .inl mu))]) [0, 1, 2, 3] rfl
      have hD9 := hD.sub (ws' := [(g, .inr (2, [.int 0, .int am, .ref m1, .ref m2, .ref m3, .ref m4, .ref m5, .ref m6, .ref m7, .int wc, .ref m8])), (m1, .inl (cJ, 500, .inr (.inl up))), (m2, .inl (cJ, 500, .inr (.inl dn))), (m3, .inl (cI, 500, .inl mu))]) [0, 1, 2, 3] (by decide) rfl
      have hz : ((-3), (0, up, dn, mu, am)) = f_M_order up dn mu am a b := by unfold f_M_order; rw [if_neg c_1, if_pos c_2]
      exact W.iret (v := (-3)) hx hb hr (fun t ht hW => ⟨⟨(-3), (0, up, dn, mu, am), rfl, hz, wb_of ht hW hP9 hK hD9⟩, hS.F ht⟩) hS.2.2 d_M_order_23
