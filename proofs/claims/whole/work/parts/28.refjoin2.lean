def f_M_join (up dn : Nat → Int64) (mu : Nat → Int32) (am : Int32) (rw_ : Nat → Int32) (mx my bl : Nat → Int64) (t_ : Int32) (a : Int32) : Int32 × Int32 × (Nat → Int64) × (Nat → Int64) × (Nat → Int32) × Int32 := if (f_M_isAmount a am) = 0 then ((-3), (0, up, dn, mu, am)) else if t_ < 0 then ((-3), (0, up, dn, mu, am)) else if t_ < 4 then if (rw_ t_.toNatClampNeg) = 0 then ((-1), (0, up, dn, mu, am)) else if ((mx (16 * t_).toNatClampNeg) * (dn a.toNatClampNeg)) < ((up a.toNatClampNeg) * (bl t_.toNatClampNeg)) then if (jn_L mx (dn a.toNatClampNeg) ((up a.toNatClampNeg) * (bl t_.toNatClampNeg)) ((rw_ t_.toNatClampNeg).toNatClampNeg - 1) (16 * t_.toNatClampNeg)) < 16 * t_.toNatClampNeg + ((rw_ t_.toNatClampNeg).toNatClampNeg - 1) then (mk5 0 (f_M_make up dn mu am ((((my (nI (jn_L mx (dn a.toNatClampNeg) ((up a.toNatClampNeg) * (bl t_.toNatClampNeg)) ((rw_ t_.toNatClampNeg).toNatClampNeg - 1) (16 * t_.toNatClampNeg))).toNatClampNeg) * ((mx ((nI (jn_L mx (dn a.toNatClampNeg) ((up a.toNatClampNeg) * (bl t_.toNatClampNeg)) ((rw_ t_.toNatClampNeg).toNatClampNeg - 1) (16 * t_.toNatClampNeg))) + 1).toNatClampNeg) - (mx (nI (jn_L mx (dn a.toNatClampNeg) ((up a.toNatClampNeg) * (bl t_.toNatClampNeg)) ((rw_ t_.toNatClampNeg).toNatClampNeg - 1) (16 * t_.toNatClampNeg))).toNatClampNeg))) * (dn a.toNatClampNeg)) + ((((up a.toNatClampNeg) * (bl t_.toNatClampNeg)) - ((mx (nI (jn_L mx (dn a.toNatClampNeg) ((up a.toNatClampNeg) * (bl t_.toNatClampNeg)) ((rw_ t_.toNatClampNeg).toNatClampNeg - 1) (16 * t_.toNatClampNeg))).toNatClampNeg) * (dn a.toNatClampNeg))) * ((my ((nI (jn_L mx (dn a.toNatClampNeg) ((up a.toNatClampNeg) * (bl t_.toNatClampNeg)) ((rw_ t_.toNatClampNeg).toNatClampNeg - 1) (16 * t_.toNatClampNeg))) + 1).toNatClampNeg) - (my (nI (jn_L mx (dn a.toNatClampNeg) ((up a.toNatClampNeg) * (bl t_.toNatClampNeg)) ((rw_ t_.toNatClampNeg).toNatClampNeg - 1) (16 * t_.toNatClampNeg))).toNatClampNeg)))) ((((mx ((nI (jn_L mx (dn a.toNatClampNeg) ((up a.toNatClampNeg) * (bl t_.toNatClampNeg)) ((rw_ t_.toNatClampNeg).toNatClampNeg - 1) (16 * t_.toNatClampNeg))) + 1).toNatClampNeg) - (mx (nI (jn_L mx (dn a.toNatClampNeg) ((up a.toNatClampNeg) * (bl t_.toNatClampNeg)) ((rw_ t_.toNatClampNeg).toNatClampNeg - 1) (16 * t_.toNatClampNeg))).toNatClampNeg)) * (dn a.toNatClampNeg)) * (bl t_.toNatClampNeg)) 0)) else (mk5 0 (f_M_make up dn mu am (my (nI ((16 * t_.toNatClampNeg) + ((rw_ t_.toNatClampNeg).toNatClampNeg - 1))).toNatClampNeg) (bl t_.toNatClampNeg) 0)) else (mk5 0 (f_M_make up dn mu am (my (16 * t_).toNatClampNeg) (bl t_.toNatClampNeg) 0)) else ((-3), (0, up, dn, mu, am))
set_option maxHeartbeats 4000000 in
set_option maxRecDepth 100000 in
theorem k_M_join (l : Launch) (dC : Nat → ClassId) (dI : Nat → Nat → Nat) (cJ cI cT : ClassId) (g m1 m2 m3 m4 m5 m6 m7 m8 : Nat) (cd am wc : Int32) (up dn : Nat → Int64) (mu : Nat → Int32) (rw_ : Nat → Int32) (mx my bl : Nat → Int64) (t_ : Int32) (a : Int32) (sz : Nat) (ha0 : 0 ≤ am.toInt) (ha : am.toInt ≤ (500 : Nat)) (hr4 : ∀ j : Nat, j < 4 → 0 ≤ (rw_ j).toInt ∧ (rw_ j).toInt ≤ 16) (hq1 : ¬ t_ < 0 → t_ < 4 → ¬ rw_ t_.toNatClampNeg = 0 → ¬ bl t_.toNatClampNeg = 0) (hq2 : ¬ f_M_isAmount a am = 0 → ¬ t_ < 0 → t_ < 4 → ¬ rw_ t_.toNatClampNeg = 0 → jn_L mx (dn a.toNatClampNeg) ((up a.toNatClampNeg) * (bl t_.toNatClampNeg)) ((rw_ t_.toNatClampNeg).toNatClampNeg - 1) (16 * t_.toNatClampNeg) < 16 * t_.toNatClampNeg + ((rw_ t_.toNatClampNeg).toNatClampNeg - 1) → ¬ (((mx (nI (jn_L mx (dn a.toNatClampNeg) ((up a.toNatClampNeg) * (bl t_.toNatClampNeg)) ((rw_ t_.toNatClampNeg).toNatClampNeg - 1) (16 * t_.toNatClampNeg)) + 1).toNatClampNeg) - (mx (nI (jn_L mx (dn a.toNatClampNeg) ((up a.toNatClampNeg) * (bl t_.toNatClampNeg)) ((rw_ t_.toNatClampNeg).toNatClampNeg - 1) (16 * t_.toNatClampNeg))).toNatClampNeg)) * (dn a.toNatClampNeg)) * (bl t_.toNatClampNeg) = 0) : Met l y_M_join w_M_join ({ frames := 2, cells := 0, slots := 0, locals := 60 }) (va_Pc [.ref g, .int t_, .int a] (wx dC dI cJ cI cT sz [(g, .inr (2, [.int cd, .int am, .ref m1, .ref m2, .ref m3, .ref m4, .ref m5, .ref m6, .ref m7, .int wc, .ref m8])), (m1, .inl (cJ, 500, .inr (.inl up))), (m2, .inl (cJ, 500, .inr (.inl dn))), (m3, .inl (cI, 500, .inl mu)), (m4, .inl (cI, 4, .inl rw_)), (m5, .inl (cJ, 64, .inr (.inl mx))), (m6, .inl (cJ, 64, .inr (.inl my))), (m7, .inl (cJ, 4, .inr (.inl bl)))])) (va_Qi (fun (r9 : Int32) (u9 : Int32 × (Nat → Int64) × (Nat → Int64) × (Nat → Int32) × Int32) => (r9, u9) = f_M_join up dn mu am rw_ mx my bl t_ a) (fun u => wb dC dI cJ cI cT (va_A [(g, .inr (2, [.int cd, .int am, .ref m1, .ref m2, .ref m3, .ref m4, .ref m5, .ref m6, .ref m7, .int wc, .ref m8])), (m1, .inl (cJ, 500, .inr (.inl up))), (m2, .inl (cJ, 500, .inr (.inl dn))), (m3, .inl (cI, 500, .inl mu)), (m4, .inl (cI, 4, .inl rw_)), (m5, .inl (cJ, 64, .inr (.inl mx))), (m6, .inl (cJ, 64, .inr (.inl my))), (m7, .inl (cJ, 4, .inr (.inl bl)))] sz) [(g, .inr (2, [.int u.1, .int u.2.2.2.2, .ref m1, .ref m2, .ref m3, .ref m4, .ref m5, .ref m6, .ref m7, .int wc, .ref m8])), (m1, .inl (cJ, 500, .inr (.inl u.2.1))), (m2, .inl (cJ, 500, .inr (.inl u.2.2.1))), (m3, .inl (cI, 500, .inl u.2.2.2.1)), (m4, .inl (cI, 4, .inl rw_)), (m5, .inl (cJ, 64, .inr (.inl mx))), (m6, .inl (cJ, 64, .inr (.inl my))), (m7, .inl (cJ, 4, .inr (.inl bl)))]) (va_A [(g, .inr (2, [.int cd, .int am, .ref m1, .ref m2, .ref m3, .ref m4, .ref m5, .ref m6, .ref m7, .int wc, .ref m8])), (m1, .inl (cJ, 500, .inr (.inl up))), (m2, .inl (cJ, 500, .inr (.inl dn))), (m3, .inl (cI, 500, .inl mu)), (m4, .inl (cI, 4, .inl rw_)), (m5, .inl (cJ, 64, .inr (.inl mx))), (m6, .inl (cJ, 64, .inr (.inl my))), (m7, .inl (cJ, 4, .inr (.inl bl)))] sz)) 0 0 (va_A [(g, .inr (2, [.int cd, .int am, .ref m1, .ref m2, .ref m3, .ref m4, .ref m5, .ref m6, .ref m7, .int wc, .ref m8])), (m1, .inl (cJ, 500, .inr (.inl up))), (m2, .inl (cJ, 500, .inr (.inl dn))), (m3, .inl (cI, 500, .inl mu)), (m4, .inl (cI, 4, .inl rw_)), (m5, .inl (cJ, 64, .inr (.inl mx))), (m6, .inl (cJ, 64, .inr (.inl my))), (m7, .inl (cJ, 4, .inr (.inl bl)))] sz) := by
  refine Met.ofW (cc := c_M_join) (maxL := 12) (ret := (Option.some Jvm.ClassFile.FieldType.int)) (by decide) rfl ?_
  intro p e s m args below meth c s₁ B hml hv
  obtain ⟨rfl, hsz, hP, hK, hD0⟩ := hv
  have hx := B.exec
  have hb := B.bytes
  have hr := B.returns
  have hts := atoms_spec (ws := w_M_join) B.pre
  have hg : ∀ w ∈ WG, w.before _ s = true := fun w h => hts w (List.mem_cons_of_mem _ h)
  have hown : s.vm.findClass R_M = some m.cls := findClass_of_methodNamed B.named
  have hlocks := B.notSynchronized
  have hl := lv_entry ([.ref g, .int t_, .int a]) (n := 12) (Nat.le_of_ble_eq_true rfl)
  rw [lg_entry_eq]
  generalize (lg_sl ([.ref g, .int t_, .int a]) ++ List.replicate (12 - (lg_sl ([.ref g, .int t_, .int a])).length) Slot.unset).toArray = ls at hl ⊢
  have hl : lv_has ls 12 [(0, .ref g), (1, .int t_), (2, .int a)] := hl
  subst hsz
  have hD := hD0.self (sz := s.heap.size)
  generalize hAe : va_A [(g, .inr (2, [.int cd, .int am, .ref m1, .ref m2, .ref m3, .ref m4, .ref m5, .ref m6, .ref m7, .int wc, .ref m8])), (m1, .inl (cJ, 500, .inr (.inl up))), (m2, .inl (cJ, 500, .inr (.inl dn))), (m3, .inl (cI, 500, .inl mu)), (m4, .inl (cI, 4, .inl rw_)), (m5, .inl (cJ, 64, .inr (.inl mx))), (m6, .inl (cJ, 64, .inr (.inl my))), (m7, .inl (cJ, 4, .inr (.inl bl)))] s.heap.size = A at hD ⊢
  have hA : ∀ q : Nat, s.heap.size ≤ q → A q := fun q h => by rw [← hAe]; exact Or.inr h
  have hS : va_S A s.heap s.heap [] := va_S.rf
  have hP : va_P (dC, dI) classes [(g, .inr (2, [.int cd, .int am, .ref m1, .ref m2, .ref m3, .ref m4, .ref m5, .ref m6, .ref m7, .int wc, .ref m8])), (m1, .inl (cJ, 500, .inr (.inl up))), (m2, .inl (cJ, 500, .inr (.inl dn))), (m3, .inl (cI, 500, .inl mu)), (m4, .inl (cI, 4, .inl rw_)), (m5, .inl (cJ, 64, .inr (.inl mx))), (m6, .inl (cJ, 64, .inr (.inl my))), (m7, .inl (cJ, 4, .inr (.inl bl)))] s.heap := hP
  have hD : va_D A [(g, .inr (2, [.int cd, .int am, .ref m1, .ref m2, .ref m3, .ref m4, .ref m5, .ref m6, .ref m7, .int wc, .ref m8])), (m1, .inl (cJ, 500, .inr (.inl up))), (m2, .inl (cJ, 500, .inr (.inl dn))), (m3, .inl (cI, 500, .inl mu)), (m4, .inl (cI, 4, .inl rw_)), (m5, .inl (cJ, 64, .inr (.inl mx))), (m6, .inl (cJ, 64, .inr (.inl my))), (m7, .inl (cJ, 4, .inr (.inl bl)))] := hD
  skip
  refine lv_aload_n hx hb d_M_join_0 rfl (lv_at hl 0 rfl) ?_
  refine lv_iconst (v := 0) hx hb d_M_join_1 (by decide) ?_
  refine va_put (D := (dC, dI)) (ci := 2) (v := .int 0) (ty := .int) (C := R_M) (T := F_M) (N := 11) hx hb hg in_M tt_M tt_M_ok nn_M hown hK hP hD hS 0 rfl rfl 0 (by decide) (hg _ wg_266) (fun _ h9 => h9) rfl (by decide +kernel) rfl rfl (Nat.le_of_ble_eq_true rfl) d_M_join_2 (fun H locs hP hD hS => ?_)
  have hP : va_P (dC, dI) classes [(g, .inr (2, [.int 0, .int am, .ref m1, .ref m2, .ref m3, .ref m4, .ref m5, .ref m6, .ref m7, .int wc, .ref m8])), (m1, .inl (cJ, 500, .inr (.inl up))), (m2, .inl (cJ, 500, .inr (.inl dn))), (m3, .inl (cI, 500, .inl mu)), (m4, .inl (cI, 4, .inl rw_)), (m5, .inl (cJ, 64, .inr (.inl mx))), (m6, .inl (cJ, 64, .inr (.inl my))), (m7, .inl (cJ, 4, .inr (.inl bl)))] H := hP
  have hD : va_D A [(g, .inr (2, [.int 0, .int am, .ref m1, .ref m2, .ref m3, .ref m4, .ref m5, .ref m6, .ref m7, .int wc, .ref m8])), (m1, .inl (cJ, 500, .inr (.inl up))), (m2, .inl (cJ, 500, .inr (.inl dn))), (m3, .inl (cI, 500, .inl mu)), (m4, .inl (cI, 4, .inl rw_)), (m5, .inl (cJ, 64, .inr (.inl mx))), (m6, .inl (cJ, 64, .inr (.inl my))), (m7, .inl (cJ, 4, .inr (.inl bl)))] := hD
  refine lv_aload_n hx hb d_M_join_5 rfl (lv_at hl 0 rfl) ?_
  refine lv_iload_n hx hb d_M_join_6 rfl (lv_at hl 2 rfl) ?_
  have hPc := hP.sub (ws' := [(g, .inr (2, [.int 0, .int am, .ref m1, .ref m2, .ref m3, .ref m4, .ref m5, .ref m6, .ref m7, .int wc, .ref m8]))]) [0] rfl
  refine W.callV (W.runV (As := [.int a]) (rest := []) ⟨hx, hb, hml, hown, hg⟩ (k_M_isAmount l dC dI cJ cI cT g m1 m2 m3 m4 m5 m6 m7 m8 0 am wc a) (q_V 1 hg wg_312 wg_310 wg_311 wg_11 wg_15 rfl rfl (by decide +kernel) ⟨Nat.le_of_ble_eq_true rfl, Nat.le_of_ble_eq_true rfl⟩) ⟨wd_blind, va_recv hK hPc (ci := 2) (q0 := 0) rfl rfl, wd_pre (as := .ref g :: [.int a]) hPc hK⟩ rfl rfl hl.1 rfl (lv_room (Nat.le_of_ble_eq_true rfl)) d_M_join_7 ⟨Nat.le_of_ble_eq_true rfl, Nat.le_of_ble_eq_true rfl⟩) ?_
  refine W.eq (g2 := F0 m 10 ls (.int (f_M_isAmount a am) :: [])) rfl ?_
  refine lv_if_eq (tgt := 22) hx hb d_M_join_10 (by decide) (fun c_1 => ?_) (fun c_1 => ?_)
  · skip
    refine lv_bipush (v := (-3)) hx hb d_M_join_22 (by decide) ?_
    have hP9 := hP.sub (ws' := [(g, .inr (2, [.int 0, .int am, .ref m1, .ref m2, .ref m3, .ref m4, .ref m5, .ref m6, .ref m7, .int wc, .ref m8])), (m1, .inl (cJ, 500, .inr (.inl up))), (m2, .inl (cJ, 500, .inr (.inl dn))), (m3, .inl (cI, 500, .inl mu)), (m4, .inl (cI, 4, .inl rw_)), (m5, .inl (cJ, 64, .inr (.inl mx))), (m6, .inl (cJ, 64, .inr (.inl my))), (m7, .inl (cJ, 4, .inr (.inl bl)))]) [0, 1, 2, 3, 4, 5, 6, 7] rfl
    have hD9 := hD.sub (ws' := [(g, .inr (2, [.int 0, .int am, .ref m1, .ref m2, .ref m3, .ref m4, .ref m5, .ref m6, .ref m7, .int wc, .ref m8])), (m1, .inl (cJ, 500, .inr (.inl up))), (m2, .inl (cJ, 500, .inr (.inl dn))), (m3, .inl (cI, 500, .inl mu)), (m4, .inl (cI, 4, .inl rw_)), (m5, .inl (cJ, 64, .inr (.inl mx))), (m6, .inl (cJ, 64, .inr (.inl my))), (m7, .inl (cJ, 4, .inr (.inl bl)))]) [0, 1, 2, 3, 4, 5, 6, 7] (by decide) rfl
    have hz : ((-3), (0, up, dn, mu, am)) = f_M_join up dn mu am rw_ mx my bl t_ a := by unfold f_M_join; rw [if_pos c_1]
    exact W.iret (v := (-3)) hx hb hr (fun t ht hW => ⟨⟨(-3), (0, up, dn, mu, am), rfl, hz, wb_of ht hW hP9 hK hD9⟩, hS.F ht⟩) hS.2.2 d_M_join_24
  · skip
    refine lv_iload_n hx hb d_M_join_13 rfl (lv_at hl 1 rfl) ?_
    refine lv_if_lt (tgt := 22) hx hb d_M_join_14 (by decide) (fun c_2 => ?_) (fun c_2 => ?_)
    · skip
      refine lv_bipush (v := (-3)) hx hb d_M_join_22 (by decide) ?_
      have hP9 := hP.sub (ws' := [(g, .inr (2, [.int 0, .int am, .ref m1, .ref m2, .ref m3, .ref m4, .ref m5, .ref m6, .ref m7, .int wc, .ref m8])), (m1, .inl (cJ, 500, .inr (.inl up))), (m2, .inl (cJ, 500, .inr (.inl dn))), (m3, .inl (cI, 500, .inl mu)), (m4, .inl (cI, 4, .inl rw_)), (m5, .inl (cJ, 64, .inr (.inl mx))), (m6, .inl (cJ, 64, .inr (.inl my))), (m7, .inl (cJ, 4, .inr (.inl bl)))]) [0, 1, 2, 3, 4, 5, 6, 7] rfl
      have hD9 := hD.sub (ws' := [(g, .inr (2, [.int 0, .int am, .ref m1, .ref m2, .ref m3, .ref m4, .ref m5, .ref m6, .ref m7, .int wc, .ref m8])), (m1, .inl (cJ, 500, .inr (.inl up))), (m2, .inl (cJ, 500, .inr (.inl dn))), (m3, .inl (cI, 500, .inl mu)), (m4, .inl (cI, 4, .inl rw_)), (m5, .inl (cJ, 64, .inr (.inl mx))), (m6, .inl (cJ, 64, .inr (.inl my))), (m7, .inl (cJ, 4, .inr (.inl bl)))]) [0, 1, 2, 3, 4, 5, 6, 7] (by decide) rfl
      have hz : ((-3), (0, up, dn, mu, am)) = f_M_join up dn mu am rw_ mx my bl t_ a := by unfold f_M_join; rw [if_neg c_1, if_pos c_2]
      exact W.iret (v := (-3)) hx hb hr (fun t ht hW => ⟨⟨(-3), (0, up, dn, mu, am), rfl, hz, wb_of ht hW hP9 hK hD9⟩, hS.F ht⟩) hS.2.2 d_M_join_24
    · skip
      refine lv_iload_n hx hb d_M_join_17 rfl (lv_at hl 1 rfl) ?_
      refine lv_iconst (v := 4) hx hb d_M_join_18 (by decide) ?_
      refine lv_icmp_lt (tgt := 25) hx hb d_M_join_19 (by decide) (fun c_3 => ?_) (fun c_3 => ?_)
      · skip
        refine lv_aload_n hx hb d_M_join_25 rfl (lv_at hl 0 rfl) ?_
        refine va_get (D := (dC, dI)) (ci := 2) (v := .ref m4) (C := R_M) (T := F_M) (N := 11) hx hb hg in_M hown hK hP 0 rfl rfl 5 (by decide) (hg _ wg_271) (fun _ h9 => h9) rfl d_M_join_26 ?_
        refine lv_iload_n hx hb d_M_join_29 rfl (lv_at hl 1 rfl) ?_
        refine va_iald hx hb hK hP 4 1 rfl rfl (in_lt c_2 c_3 (by decide)) d_M_join_30 ?_
        refine lv_if_ne (tgt := 36) hx hb d_M_join_31 (by decide) (fun c_4 => ?_) (fun c_4 => ?_)
        · skip
          refine lv_aload_n hx hb d_M_join_36 rfl (lv_at hl 0 rfl) ?_
          refine va_get (D := (dC, dI)) (ci := 2) (v := .ref m1) (C := R_M) (T := F_M) (N := 11) hx hb hg in_M hown hK hP 0 rfl rfl 2 (by decide) (hg _ wg_268) (fun _ h9 => h9) rfl d_M_join_37 ?_
          refine lv_iload_n hx hb d_M_join_40 rfl (lv_at hl 2 rfl) ?_
          refine va_lald hx hb hK hP 1 0 rfl rfl (mam_in c_1 ha) d_M_join_41 ?_
          refine lv_aload_n hx hb d_M_join_42 rfl (lv_at hl 0 rfl) ?_
          refine va_get (D := (dC, dI)) (ci := 2) (v := .ref m7) (C := R_M) (T := F_M) (N := 11) hx hb hg in_M hown hK hP 0 rfl rfl 8 (by decide) (hg _ wg_274) (fun _ h9 => h9) rfl d_M_join_43 ?_
          refine lv_iload_n hx hb d_M_join_46 rfl (lv_at hl 1 rfl) ?_
          refine va_lald hx hb hK hP 7 0 rfl rfl (in_lt c_2 c_3 (by decide)) d_M_join_47 ?_
          refine lv_lmul hx hb d_M_join_48 ?_
          refine lv_topl (fun v_5 ev_5 => ?_)
          refine lv_lstore_n (lv' := [(3, .long v_5), (0, .ref g), (1, .int t_), (2, .int a)]) hx hb d_M_join_49 rfl hl (by decide) rfl (fun ls hl => ?_)
          refine lv_bipush (v := 16) hx hb d_M_join_50 (by decide) ?_
          refine lv_iload_n hx hb d_M_join_52 rfl (lv_at hl 2 rfl) ?_
          refine lv_imul hx hb d_M_join_53 ?_
          refine lv_topi (fun v_6 ev_6 => ?_)
          refine lv_istore (lv' := [(5, .int v_6), (3, .long v_5), (0, .ref g), (1, .int t_), (2, .int a)]) hx hb d_M_join_54 hl (by decide) rfl (fun ls hl => ?_)
          refine lv_iload hx hb d_M_join_56 (lv_at hl 0 rfl) ?_
          refine lv_aload_n hx hb d_M_join_58 rfl (lv_at hl 2 rfl) ?_
          refine va_get (D := (dC, dI)) (ci := 2) (v := .ref m4) (C := R_M) (T := F_M) (N := 11) hx hb hg in_M hown hK hP 0 rfl rfl 5 (by decide) (hg _ wg_271) (fun _ h9 => h9) rfl d_M_join_59 ?_
          refine lv_iload_n hx hb d_M_join_62 rfl (lv_at hl 3 rfl) ?_
          refine va_iald hx hb hK hP 4 1 rfl rfl (in_lt c_2 c_3 (by decide)) d_M_join_63 ?_
          refine lv_iadd hx hb d_M_join_64 ?_
          refine lv_iconst (v := 1) hx hb d_M_join_65 (by decide) ?_
          refine lv_isub hx hb d_M_join_66 ?_
          refine lv_topi (fun v_7 ev_7 => ?_)
          refine lv_istore (lv' := [(6, .int v_7), (5, .int v_6), (3, .long v_5), (0, .ref g), (1, .int t_), (2, .int a)]) hx hb d_M_join_67 hl (by decide) rfl (fun ls hl => ?_)
          refine lv_lload_n hx hb d_M_join_69 rfl (lv_at hl 2 rfl) ?_
          refine lv_aload_n hx hb d_M_join_70 rfl (lv_at hl 3 rfl) ?_
          refine va_get (D := (dC, dI)) (ci := 2) (v := .ref m5) (C := R_M) (T := F_M) (N := 11) hx hb hg in_M hown hK hP 0 rfl rfl 6 (by decide) (hg _ wg_272) (fun _ h9 => h9) rfl d_M_join_71 ?_
          refine lv_iload hx hb d_M_join_74 (lv_at hl 1 rfl) ?_
          refine va_lald hx hb hK hP 5 0 rfl rfl (by rw [ev_6]; exact first_in c_2 c_3) d_M_join_76 ?_
          refine lv_aload_n hx hb d_M_join_77 rfl (lv_at hl 3 rfl) ?_
          refine va_get (D := (dC, dI)) (ci := 2) (v := .ref m2) (C := R_M) (T := F_M) (N := 11) hx hb hg in_M hown hK hP 0 rfl rfl 3 (by decide) (hg _ wg_269) (fun _ h9 => h9) rfl d_M_join_78 ?_
          refine lv_iload_n hx hb d_M_join_81 rfl (lv_at hl 5 rfl) ?_
          refine va_lald hx hb hK hP 2 0 rfl rfl (mam_in c_1 ha) d_M_join_82 ?_
          refine lv_lmul hx hb d_M_join_83 ?_
          refine W.lcmp hx hb d_M_join_84 ?_
          refine lv_if_gt (tgt := 107) hx hb d_M_join_85 (by decide) (fun c_8 => ?_) (fun c_8 => ?_)
          · skip
            rw [lg_cmp_gt] at c_8
            refine lv_iload hx hb d_M_join_107 (lv_at hl 1 rfl) ?_
            refine lv_istore (lv' := [(7, .int v_6), (6, .int v_7), (5, .int v_6), (3, .long v_5), (0, .ref g), (1, .int t_), (2, .int a)]) hx hb d_M_join_109 hl (by decide) rfl (fun ls hl => ?_)
            obtain ⟨j0, hj0, ej, ejc⟩ := t_of c_2 (nle_of c_3)
            have hb9 := rw_b hr4 c_2 (nle_of c_3)
            obtain ⟨rr, hrr, er⟩ := nI_of (x := rw_ t_.toNatClampNeg) (fun hh => by rw [Int32.lt_iff_toInt_lt] at hh; have e0 : (0 : Int32).toInt = 0 := rfl; omega)
            have er2 : (rw_ t_.toNatClampNeg).toNatClampNeg = rr := by rw [er]; exact nI_clamp hrr
            have er3 : (rw_ t_.toNatClampNeg).toInt = rr := by rw [er]; exact nI_toInt hrr
            have er4 : rr ≠ 0 := fun h9 => c_4 (by rw [er, h9]; rfl)
            obtain ⟨kf, ekf⟩ : ∃ z : Nat, z = 16 * t_.toNatClampNeg := ⟨_, rfl⟩
            obtain ⟨qn, eqn⟩ : ∃ z : Nat, z = ((rw_ t_.toNatClampNeg).toNatClampNeg - 1) := ⟨_, rfl⟩
            have ef : v_6 = nI kf := by rw [ev_6, ekf, ejc, ej]; exact pk_mul 16 j0
            have el : v_7 = nI (kf + qn) := by rw [ev_7, ef, eqn, er2, er, nI_add, show kf + rr = (kf + (rr - 1)) + 1 from by omega, nI_pred]
            have hkq : kf + qn ≤ 63 := by rw [ekf, eqn, er2, ejc]; omega
            rw [ef, el] at hl
            refine lp_M_join (am := am) (wc := wc) (dn := dn) (mx := mx) (pl := v_5) (g := g) (m1 := m1) (m2 := m2) (m3 := m3) (m4 := m4) (m5 := m5) (m6 := m6) (m7 := m7) (m8 := m8) hx hb hg hown (mam_in c_1 ha) hK (hP.sub [0, 2, 5] rfl) qn kf ls hkq (lv_sub hl [4, 5, 6, 3, 1, 0] rfl) (fun ls j hjn hlt9 hl => ?_) (fun ls hjn hl => ?_)
            · skip
              have cj_9 : jn_L mx (dn a.toNatClampNeg) v_5 qn kf < kf + qn := by rw [hjn]; exact hlt9
              have ej9 : j = jn_L mx (dn a.toNatClampNeg) v_5 qn kf := hjn.symm
              clear hjn
              clear ef el ej ejc er er2 er3
              clear ev_7
              refine lv_aload_n hx hb d_M_join_139 rfl (lv_at hl 0 rfl) ?_
              refine va_get (D := (dC, dI)) (ci := 2) (v := .ref m5) (C := R_M) (T := F_M) (N := 11) hx hb hg in_M hown hK hP 0 rfl rfl 6 (by decide) (hg _ wg_272) (fun _ h9 => h9) rfl d_M_join_140 ?_
              refine lv_iload hx hb d_M_join_143 (lv_at hl 4 rfl) ?_
              refine lv_iconst (v := 1) hx hb d_M_join_145 (by decide) ?_
              refine lv_iadd hx hb d_M_join_146 ?_
              refine lv_topi (fun i_10 ei_10 => ?_)
              refine va_lald hx hb hK hP 5 0 rfl rfl (by rw [ei_10, nI_1]; exact vp_in_nI (by omega) (by decide)) d_M_join_147 ?_
              refine lv_aload_n hx hb d_M_join_148 rfl (lv_at hl 0 rfl) ?_
              refine va_get (D := (dC, dI)) (ci := 2) (v := .ref m5) (C := R_M) (T := F_M) (N := 11) hx hb hg in_M hown hK hP 0 rfl rfl 6 (by decide) (hg _ wg_272) (fun _ h9 => h9) rfl d_M_join_149 ?_
              refine lv_iload hx hb d_M_join_152 (lv_at hl 4 rfl) ?_
              refine va_lald hx hb hK hP 5 0 rfl rfl (vp_in_nI (by omega) (by decide)) d_M_join_154 ?_
              refine lv_lsub hx hb d_M_join_155 ?_
              refine lv_topl (fun v_11 ev_11 => ?_)
              refine lv_lstore (lv' := [(8, .long v_11), (0, .ref g), (1, .int t_), (2, .int a), (3, .long v_5), (7, .int (nI j))]) hx hb d_M_join_156 hl (by decide) rfl (fun ls hl => ?_)
              refine lv_lload_n hx hb d_M_join_158 rfl (lv_at hl 4 rfl) ?_
              refine lv_aload_n hx hb d_M_join_159 rfl (lv_at hl 1 rfl) ?_
              refine va_get (D := (dC, dI)) (ci := 2) (v := .ref m5) (C := R_M) (T := F_M) (N := 11) hx hb hg in_M hown hK hP 0 rfl rfl 6 (by decide) (hg _ wg_272) (fun _ h9 => h9) rfl d_M_join_160 ?_
              refine lv_iload hx hb d_M_join_163 (lv_at hl 5 rfl) ?_
              refine va_lald hx hb hK hP 5 0 rfl rfl (vp_in_nI (by omega) (by decide)) d_M_join_165 ?_
              refine lv_aload_n hx hb d_M_join_166 rfl (lv_at hl 1 rfl) ?_
              refine va_get (D := (dC, dI)) (ci := 2) (v := .ref m2) (C := R_M) (T := F_M) (N := 11) hx hb hg in_M hown hK hP 0 rfl rfl 3 (by decide) (hg _ wg_269) (fun _ h9 => h9) rfl d_M_join_167 ?_
              refine lv_iload_n hx hb d_M_join_170 rfl (lv_at hl 3 rfl) ?_
              refine va_lald hx hb hK hP 2 0 rfl rfl (mam_in c_1 ha) d_M_join_171 ?_
              refine lv_lmul hx hb d_M_join_172 ?_
              refine lv_lsub hx hb d_M_join_173 ?_
              refine lv_aload_n hx hb d_M_join_174 rfl (lv_at hl 1 rfl) ?_
              refine va_get (D := (dC, dI)) (ci := 2) (v := .ref m6) (C := R_M) (T := F_M) (N := 11) hx hb hg in_M hown hK hP 0 rfl rfl 7 (by decide) (hg _ wg_273) (fun _ h9 => h9) rfl d_M_join_175 ?_
              refine lv_iload hx hb d_M_join_178 (lv_at hl 5 rfl) ?_
              refine lv_iconst (v := 1) hx hb d_M_join_180 (by decide) ?_
              refine lv_iadd hx hb d_M_join_181 ?_
              refine lv_topi (fun i_12 ei_12 => ?_)
              refine va_lald hx hb hK hP 6 0 rfl rfl (by rw [ei_12, nI_1]; exact vp_in_nI (by omega) (by decide)) d_M_join_182 ?_
              refine lv_aload_n hx hb d_M_join_183 rfl (lv_at hl 1 rfl) ?_
              refine va_get (D := (dC, dI)) (ci := 2) (v := .ref m6) (C := R_M) (T := F_M) (N := 11) hx hb hg in_M hown hK hP 0 rfl rfl 7 (by decide) (hg _ wg_273) (fun _ h9 => h9) rfl d_M_join_184 ?_
              refine lv_iload hx hb d_M_join_187 (lv_at hl 5 rfl) ?_
              refine va_lald hx hb hK hP 6 0 rfl rfl (vp_in_nI (by omega) (by decide)) d_M_join_189 ?_
              refine lv_lsub hx hb d_M_join_190 ?_
              refine lv_lmul hx hb d_M_join_191 ?_
              refine lv_topl (fun v_13 ev_13 => ?_)
              refine lv_lstore (lv' := [(10, .long v_13), (8, .long v_11), (0, .ref g), (1, .int t_), (2, .int a), (3, .long v_5), (7, .int (nI j))]) hx hb d_M_join_192 hl (by decide) rfl (fun ls hl => ?_)
              refine lv_aload_n hx hb d_M_join_194 rfl (lv_at hl 2 rfl) ?_
              refine lv_aload_n hx hb d_M_join_195 rfl (lv_at hl 2 rfl) ?_
              refine va_get (D := (dC, dI)) (ci := 2) (v := .ref m6) (C := R_M) (T := F_M) (N := 11) hx hb hg in_M hown hK hP 0 rfl rfl 7 (by decide) (hg _ wg_273) (fun _ h9 => h9) rfl d_M_join_196 ?_
              refine lv_iload hx hb d_M_join_199 (lv_at hl 6 rfl) ?_
              refine va_lald hx hb hK hP 6 0 rfl rfl (vp_in_nI (by omega) (by decide)) d_M_join_201 ?_
              refine lv_lload hx hb d_M_join_202 (lv_at hl 1 rfl) ?_
              refine lv_lmul hx hb d_M_join_204 ?_
              refine lv_aload_n hx hb d_M_join_205 rfl (lv_at hl 2 rfl) ?_
              refine va_get (D := (dC, dI)) (ci := 2) (v := .ref m2) (C := R_M) (T := F_M) (N := 11) hx hb hg in_M hown hK hP 0 rfl rfl 3 (by decide) (hg _ wg_269) (fun _ h9 => h9) rfl d_M_join_206 ?_
              refine lv_iload_n hx hb d_M_join_209 rfl (lv_at hl 4 rfl) ?_
              refine va_lald hx hb hK hP 2 0 rfl rfl (mam_in c_1 ha) d_M_join_210 ?_
              refine lv_lmul hx hb d_M_join_211 ?_
              refine lv_lload hx hb d_M_join_212 (lv_at hl 0 rfl) ?_
              refine lv_ladd hx hb d_M_join_214 ?_
              refine lv_lload hx hb d_M_join_215 (lv_at hl 1 rfl) ?_
              refine lv_aload_n hx hb d_M_join_217 rfl (lv_at hl 2 rfl) ?_
              refine va_get (D := (dC, dI)) (ci := 2) (v := .ref m2) (C := R_M) (T := F_M) (N := 11) hx hb hg in_M hown hK hP 0 rfl rfl 3 (by decide) (hg _ wg_269) (fun _ h9 => h9) rfl d_M_join_218 ?_
              refine lv_iload_n hx hb d_M_join_221 rfl (lv_at hl 4 rfl) ?_
              refine va_lald hx hb hK hP 2 0 rfl rfl (mam_in c_1 ha) d_M_join_222 ?_
              refine lv_lmul hx hb d_M_join_223 ?_
              refine lv_aload_n hx hb d_M_join_224 rfl (lv_at hl 2 rfl) ?_
              refine va_get (D := (dC, dI)) (ci := 2) (v := .ref m7) (C := R_M) (T := F_M) (N := 11) hx hb hg in_M hown hK hP 0 rfl rfl 8 (by decide) (hg _ wg_274) (fun _ h9 => h9) rfl d_M_join_225 ?_
              refine lv_iload_n hx hb d_M_join_228 rfl (lv_at hl 3 rfl) ?_
              refine va_lald hx hb hK hP 7 0 rfl rfl (in_lt c_2 c_3 (by decide)) d_M_join_229 ?_
              refine lv_lmul hx hb d_M_join_230 ?_
              refine lv_iconst (v := 0) hx hb d_M_join_231 (by decide) ?_
              have hq9 : ¬ (v_11 * (dn a.toNatClampNeg)) * (bl t_.toNatClampNeg) = 0 := by subst ev_13; subst ei_12; subst ev_11; subst ei_10; subst ej9; subst eqn; subst ekf; subst ev_6; subst ev_5; exact hq2 c_1 c_2 c_3 c_4 cj_9
              have hPc := hP.sub (ws' := [(g, .inr (2, [.int 0, .int am, .ref m1, .ref m2, .ref m3, .ref m4, .ref m5, .ref m6, .ref m7, .int wc, .ref m8])), (m1, .inl (cJ, 500, .inr (.inl up))), (m2, .inl (cJ, 500, .inr (.inl dn))), (m3, .inl (cI, 500, .inl mu))]) [0, 1, 2, 3] rfl
              have hDc := hD.sub (ws' := [(g, .inr (2, [.int 0, .int am, .ref m1, .ref m2, .ref m3, .ref m4, .ref m5, .ref m6, .ref m7, .int wc, .ref m8])), (m1, .inl (cJ, 500, .inr (.inl up))), (m2, .inl (cJ, 500, .inr (.inl dn))), (m3, .inl (cI, 500, .inl mu))]) [0, 1, 2, 3] (by decide) rfl
              have hFc := va_free (wc := [(g, .inr (2, [.int 0, .int am, .ref m1, .ref m2, .ref m3, .ref m4, .ref m5, .ref m6, .ref m7, .int wc, .ref m8])), (m1, .inl (cJ, 500, .inr (.inl up))), (m2, .inl (cJ, 500, .inr (.inl dn))), (m3, .inl (cI, 500, .inl mu))]) hD hS hA [0, 1, 2, 3] rfl
              refine va_calli (va_runV (As := [.long ((((my (nI j).toNatClampNeg) * v_11) * (dn a.toNatClampNeg)) + v_13), .long ((v_11 * (dn a.toNatClampNeg)) * (bl t_.toNatClampNeg)), .int 0]) (rest := []) ⟨hx, hb, hml, hown, hg⟩ (k_M_make l dC dI cJ cI cT g m1 m2 m3 m4 m5 m6 m7 m8 0 am wc up dn mu ((((my (nI j).toNatClampNeg) * v_11) * (dn a.toNatClampNeg)) + v_13) ((v_11 * (dn a.toNatClampNeg)) * (bl t_.toNatClampNeg)) 0 _ ha0 ha hq9) (q_V 3 hg wg_300 wg_298 wg_299 wg_10 wg_15 rfl rfl (by decide +kernel) ⟨Nat.le_of_ble_eq_true rfl, Nat.le_of_ble_eq_true rfl⟩) ⟨wx_blind, va_recv hK hPc (ci := 2) (q0 := 0) rfl rfl, wx_pre (as := .ref g :: [.long ((((my (nI j).toNatClampNeg) * v_11) * (dn a.toNatClampNeg)) + v_13), .long ((v_11 * (dn a.toNatClampNeg)) * (bl t_.toNatClampNeg)), .int 0]) hPc hK hDc⟩ rfl rfl hl.1 rfl (lv_room (Nat.le_of_ble_eq_true rfl)) d_M_join_232 ⟨Nat.le_of_ble_eq_true rfl, Nat.le_of_ble_eq_true rfl⟩) hS (fun q _ h => hFc q h) hFc (fun r_18 u t H1 locs ht hvm hw_19 hB hz1 hk1 hS => ?_)
              obtain ⟨up_14, dn_15, mu_16, am_17⟩ := u
              obtain ⟨hP1, hK1, hD1⟩ := hB
              rw [ht] at hP1
              obtain ⟨hP, hD⟩ := va_join (wr := [(m4, .inl (cI, 4, .inl rw_)), (m5, .inl (cJ, 64, .inr (.inl mx))), (m6, .inl (cJ, 64, .inr (.inl my))), (m7, .inl (cJ, 4, .inr (.inl bl)))]) (w1 := [(g, .inr (2, [.int 0, .int am_17, .ref m1, .ref m2, .ref m3, .ref m4, .ref m5, .ref m6, .ref m7, .int wc, .ref m8])), (m1, .inl (cJ, 500, .inr (.inl up_14))), (m2, .inl (cJ, 500, .inr (.inl dn_15))), (m3, .inl (cI, 500, .inl mu_16))]) hP hD [0, 1, 2, 3] [4, 5, 6, 7] rfl rfl (by decide) (by decide) hk1 hFc hP1 hD1
              generalize H1 = H at hP hS ⊢
              have hP : va_P (dC, dI) classes [(m4, .inl (cI, 4, .inl rw_)), (m5, .inl (cJ, 64, .inr (.inl mx))), (m6, .inl (cJ, 64, .inr (.inl my))), (m7, .inl (cJ, 4, .inr (.inl bl))), (g, .inr (2, [.int 0, .int am_17, .ref m1, .ref m2, .ref m3, .ref m4, .ref m5, .ref m6, .ref m7, .int wc, .ref m8])), (m1, .inl (cJ, 500, .inr (.inl up_14))), (m2, .inl (cJ, 500, .inr (.inl dn_15))), (m3, .inl (cI, 500, .inl mu_16))] H := hP
              have hD : va_D A [(m4, .inl (cI, 4, .inl rw_)), (m5, .inl (cJ, 64, .inr (.inl mx))), (m6, .inl (cJ, 64, .inr (.inl my))), (m7, .inl (cJ, 4, .inr (.inl bl))), (g, .inr (2, [.int 0, .int am_17, .ref m1, .ref m2, .ref m3, .ref m4, .ref m5, .ref m6, .ref m7, .int wc, .ref m8])), (m1, .inl (cJ, 500, .inr (.inl up_14))), (m2, .inl (cJ, 500, .inr (.inl dn_15))), (m3, .inl (cI, 500, .inl mu_16))] := hD
              subst ev_13
              subst ei_12
              subst ev_11
              subst ei_10
              subst ej9
              subst eqn
              subst ekf
              subst ev_6
              subst ev_5
              have hP9 := hP.sub (ws' := [(g, .inr (2, [.int 0, .int am_17, .ref m1, .ref m2, .ref m3, .ref m4, .ref m5, .ref m6, .ref m7, .int wc, .ref m8])), (m1, .inl (cJ, 500, .inr (.inl up_14))), (m2, .inl (cJ, 500, .inr (.inl dn_15))), (m3, .inl (cI, 500, .inl mu_16)), (m4, .inl (cI, 4, .inl rw_)), (m5, .inl (cJ, 64, .inr (.inl mx))), (m6, .inl (cJ, 64, .inr (.inl my))), (m7, .inl (cJ, 4, .inr (.inl bl)))]) [4, 5, 6, 7, 0, 1, 2, 3] rfl
              have hD9 := hD.sub (ws' := [(g, .inr (2, [.int 0, .int am_17, .ref m1, .ref m2, .ref m3, .ref m4, .ref m5, .ref m6, .ref m7, .int wc, .ref m8])), (m1, .inl (cJ, 500, .inr (.inl up_14))), (m2, .inl (cJ, 500, .inr (.inl dn_15))), (m3, .inl (cI, 500, .inl mu_16)), (m4, .inl (cI, 4, .inl rw_)), (m5, .inl (cJ, 64, .inr (.inl mx))), (m6, .inl (cJ, 64, .inr (.inl my))), (m7, .inl (cJ, 4, .inr (.inl bl)))]) [4, 5, 6, 7, 0, 1, 2, 3] (by decide) rfl
              have hz : (r_18, (0, up_14, dn_15, mu_16, am_17)) = f_M_join up dn mu am rw_ mx my bl t_ a := by unfold f_M_join; rw [if_neg c_1, if_neg c_2, if_pos c_3, if_neg c_4, if_pos c_8, if_pos cj_9]; exact congrArg (mk5 0) hw_19
              exact W.iret (v := r_18) hx hb hr (fun t ht hW => ⟨⟨r_18, (0, up_14, dn_15, mu_16, am_17), rfl, hz, wb_of ht hW hP9 hK hD9⟩, hS.F ht⟩) hS.2.2 d_M_join_235
            · skip
              have cj_20 : ¬ jn_L mx (dn a.toNatClampNeg) v_5 qn kf < kf + qn := by rw [hjn]; exact Nat.lt_irrefl _
              clear hjn
              clear ef el ej ejc er er2 er3
              clear ev_7
              refine lv_aload_n hx hb d_M_join_242 rfl (lv_at hl 0 rfl) ?_
              refine lv_aload_n hx hb d_M_join_243 rfl (lv_at hl 0 rfl) ?_
              refine va_get (D := (dC, dI)) (ci := 2) (v := .ref m6) (C := R_M) (T := F_M) (N := 11) hx hb hg in_M hown hK hP 0 rfl rfl 7 (by decide) (hg _ wg_273) (fun _ h9 => h9) rfl d_M_join_244 ?_
              refine lv_iload hx hb d_M_join_247 (lv_at hl 2 rfl) ?_
              refine va_lald hx hb hK hP 6 0 rfl rfl (vp_in_nI (by omega) (by decide)) d_M_join_249 ?_
              refine lv_aload_n hx hb d_M_join_250 rfl (lv_at hl 0 rfl) ?_
              refine va_get (D := (dC, dI)) (ci := 2) (v := .ref m7) (C := R_M) (T := F_M) (N := 11) hx hb hg in_M hown hK hP 0 rfl rfl 8 (by decide) (hg _ wg_274) (fun _ h9 => h9) rfl d_M_join_251 ?_
              refine lv_iload_n hx hb d_M_join_254 rfl (lv_at hl 1 rfl) ?_
              refine va_lald hx hb hK hP 7 0 rfl rfl (in_lt c_2 c_3 (by decide)) d_M_join_255 ?_
              refine lv_iconst (v := 0) hx hb d_M_join_256 (by decide) ?_
              have hPc := hP.sub (ws' := [(g, .inr (2, [.int 0, .int am, .ref m1, .ref m2, .ref m3, .ref m4, .ref m5, .ref m6, .ref m7, .int wc, .ref m8])), (m1, .inl (cJ, 500, .inr (.inl up))), (m2, .inl (cJ, 500, .inr (.inl dn))), (m3, .inl (cI, 500, .inl mu))]) [0, 1, 2, 3] rfl
              have hDc := hD.sub (ws' := [(g, .inr (2, [.int 0, .int am, .ref m1, .ref m2, .ref m3, .ref m4, .ref m5, .ref m6, .ref m7, .int wc, .ref m8])), (m1, .inl (cJ, 500, .inr (.inl up))), (m2, .inl (cJ, 500, .inr (.inl dn))), (m3, .inl (cI, 500, .inl mu))]) [0, 1, 2, 3] (by decide) rfl
              have hFc := va_free (wc := [(g, .inr (2, [.int 0, .int am, .ref m1, .ref m2, .ref m3, .ref m4, .ref m5, .ref m6, .ref m7, .int wc, .ref m8])), (m1, .inl (cJ, 500, .inr (.inl up))), (m2, .inl (cJ, 500, .inr (.inl dn))), (m3, .inl (cI, 500, .inl mu))]) hD hS hA [0, 1, 2, 3] rfl
              refine va_calli (va_runV (As := [.long (my (nI (kf + qn)).toNatClampNeg), .long (bl t_.toNatClampNeg), .int 0]) (rest := []) ⟨hx, hb, hml, hown, hg⟩ (k_M_make l dC dI cJ cI cT g m1 m2 m3 m4 m5 m6 m7 m8 0 am wc up dn mu (my (nI (kf + qn)).toNatClampNeg) (bl t_.toNatClampNeg) 0 _ ha0 ha (hq1 c_2 c_3 c_4)) (q_V 3 hg wg_300 wg_298 wg_299 wg_10 wg_15 rfl rfl (by decide +kernel) ⟨Nat.le_of_ble_eq_true rfl, Nat.le_of_ble_eq_true rfl⟩) ⟨wx_blind, va_recv hK hPc (ci := 2) (q0 := 0) rfl rfl, wx_pre (as := .ref g :: [.long (my (nI (kf + qn)).toNatClampNeg), .long (bl t_.toNatClampNeg), .int 0]) hPc hK hDc⟩ rfl rfl hl.1 rfl (lv_room (Nat.le_of_ble_eq_true rfl)) d_M_join_257 ⟨Nat.le_of_ble_eq_true rfl, Nat.le_of_ble_eq_true rfl⟩) hS (fun q _ h => hFc q h) hFc (fun r_25 u t H1 locs ht hvm hw_26 hB hz1 hk1 hS => ?_)
              obtain ⟨up_21, dn_22, mu_23, am_24⟩ := u
              obtain ⟨hP1, hK1, hD1⟩ := hB
              rw [ht] at hP1
              obtain ⟨hP, hD⟩ := va_join (wr := [(m4, .inl (cI, 4, .inl rw_)), (m5, .inl (cJ, 64, .inr (.inl mx))), (m6, .inl (cJ, 64, .inr (.inl my))), (m7, .inl (cJ, 4, .inr (.inl bl)))]) (w1 := [(g, .inr (2, [.int 0, .int am_24, .ref m1, .ref m2, .ref m3, .ref m4, .ref m5, .ref m6, .ref m7, .int wc, .ref m8])), (m1, .inl (cJ, 500, .inr (.inl up_21))), (m2, .inl (cJ, 500, .inr (.inl dn_22))), (m3, .inl (cI, 500, .inl mu_23))]) hP hD [0, 1, 2, 3] [4, 5, 6, 7] rfl rfl (by decide) (by decide) hk1 hFc hP1 hD1
              generalize H1 = H at hP hS ⊢
              have hP : va_P (dC, dI) classes [(m4, .inl (cI, 4, .inl rw_)), (m5, .inl (cJ, 64, .inr (.inl mx))), (m6, .inl (cJ, 64, .inr (.inl my))), (m7, .inl (cJ, 4, .inr (.inl bl))), (g, .inr (2, [.int 0, .int am_24, .ref m1, .ref m2, .ref m3, .ref m4, .ref m5, .ref m6, .ref m7, .int wc, .ref m8])), (m1, .inl (cJ, 500, .inr (.inl up_21))), (m2, .inl (cJ, 500, .inr (.inl dn_22))), (m3, .inl (cI, 500, .inl mu_23))] H := hP
              have hD : va_D A [(m4, .inl (cI, 4, .inl rw_)), (m5, .inl (cJ, 64, .inr (.inl mx))), (m6, .inl (cJ, 64, .inr (.inl my))), (m7, .inl (cJ, 4, .inr (.inl bl))), (g, .inr (2, [.int 0, .int am_24, .ref m1, .ref m2, .ref m3, .ref m4, .ref m5, .ref m6, .ref m7, .int wc, .ref m8])), (m1, .inl (cJ, 500, .inr (.inl up_21))), (m2, .inl (cJ, 500, .inr (.inl dn_22))), (m3, .inl (cI, 500, .inl mu_23))] := hD
              subst eqn
              subst ekf
              subst ev_6
              subst ev_5
              have hP9 := hP.sub (ws' := [(g, .inr (2, [.int 0, .int am_24, .ref m1, .ref m2, .ref m3, .ref m4, .ref m5, .ref m6, .ref m7, .int wc, .ref m8])), (m1, .inl (cJ, 500, .inr (.inl up_21))), (m2, .inl (cJ, 500, .inr (.inl dn_22))), (m3, .inl (cI, 500, .inl mu_23)), (m4, .inl (cI, 4, .inl rw_)), (m5, .inl (cJ, 64, .inr (.inl mx))), (m6, .inl (cJ, 64, .inr (.inl my))), (m7, .inl (cJ, 4, .inr (.inl bl)))]) [4, 5, 6, 7, 0, 1, 2, 3] rfl
              have hD9 := hD.sub (ws' := [(g, .inr (2, [.int 0, .int am_24, .ref m1, .ref m2, .ref m3, .ref m4, .ref m5, .ref m6, .ref m7, .int wc, .ref m8])), (m1, .inl (cJ, 500, .inr (.inl up_21))), (m2, .inl (cJ, 500, .inr (.inl dn_22))), (m3, .inl (cI, 500, .inl mu_23)), (m4, .inl (cI, 4, .inl rw_)), (m5, .inl (cJ, 64, .inr (.inl mx))), (m6, .inl (cJ, 64, .inr (.inl my))), (m7, .inl (cJ, 4, .inr (.inl bl)))]) [4, 5, 6, 7, 0, 1, 2, 3] (by decide) rfl
              have hz : (r_25, (0, up_21, dn_22, mu_23, am_24)) = f_M_join up dn mu am rw_ mx my bl t_ a := by unfold f_M_join; rw [if_neg c_1, if_neg c_2, if_pos c_3, if_neg c_4, if_pos c_8, if_neg cj_20]; exact congrArg (mk5 0) hw_26
              exact W.iret (v := r_25) hx hb hr (fun t ht hW => ⟨⟨r_25, (0, up_21, dn_22, mu_23, am_24), rfl, hz, wb_of ht hW hP9 hK hD9⟩, hS.F ht⟩) hS.2.2 d_M_join_260
          · skip
            rw [lg_cmp_gt] at c_8
            refine lv_aload_n hx hb d_M_join_88 rfl (lv_at hl 3 rfl) ?_
            refine lv_aload_n hx hb d_M_join_89 rfl (lv_at hl 3 rfl) ?_
            refine va_get (D := (dC, dI)) (ci := 2) (v := .ref m6) (C := R_M) (T := F_M) (N := 11) hx hb hg in_M hown hK hP 0 rfl rfl 7 (by decide) (hg _ wg_273) (fun _ h9 => h9) rfl d_M_join_90 ?_
            refine lv_iload hx hb d_M_join_93 (lv_at hl 1 rfl) ?_
            refine va_lald hx hb hK hP 6 0 rfl rfl (by rw [ev_6]; exact first_in c_2 c_3) d_M_join_95 ?_
            refine lv_aload_n hx hb d_M_join_96 rfl (lv_at hl 3 rfl) ?_
            refine va_get (D := (dC, dI)) (ci := 2) (v := .ref m7) (C := R_M) (T := F_M) (N := 11) hx hb hg in_M hown hK hP 0 rfl rfl 8 (by decide) (hg _ wg_274) (fun _ h9 => h9) rfl d_M_join_97 ?_
            refine lv_iload_n hx hb d_M_join_100 rfl (lv_at hl 4 rfl) ?_
            refine va_lald hx hb hK hP 7 0 rfl rfl (in_lt c_2 c_3 (by decide)) d_M_join_101 ?_
            refine lv_iconst (v := 0) hx hb d_M_join_102 (by decide) ?_
            have hPc := hP.sub (ws' := [(g, .inr (2, [.int 0, .int am, .ref m1, .ref m2, .ref m3, .ref m4, .ref m5, .ref m6, .ref m7, .int wc, .ref m8])), (m1, .inl (cJ, 500, .inr (.inl up))), (m2, .inl (cJ, 500, .inr (.inl dn))), (m3, .inl (cI, 500, .inl mu))]) [0, 1, 2, 3] rfl
            have hDc := hD.sub (ws' := [(g, .inr (2, [.int 0, .int am, .ref m1, .ref m2, .ref m3, .ref m4, .ref m5, .ref m6, .ref m7, .int wc, .ref m8])), (m1, .inl (cJ, 500, .inr (.inl up))), (m2, .inl (cJ, 500, .inr (.inl dn))), (m3, .inl (cI, 500, .inl mu))]) [0, 1, 2, 3] (by decide) rfl
            have hFc := va_free (wc := [(g, .inr (2, [.int 0, .int am, .ref m1, .ref m2, .ref m3, .ref m4, .ref m5, .ref m6, .ref m7, .int wc, .ref m8])), (m1, .inl (cJ, 500, .inr (.inl up))), (m2, .inl (cJ, 500, .inr (.inl dn))), (m3, .inl (cI, 500, .inl mu))]) hD hS hA [0, 1, 2, 3] rfl
            refine va_calli (va_runV (As := [.long (my v_6.toNatClampNeg), .long (bl t_.toNatClampNeg), .int 0]) (rest := []) ⟨hx, hb, hml, hown, hg⟩ (k_M_make l dC dI cJ cI cT g m1 m2 m3 m4 m5 m6 m7 m8 0 am wc up dn mu (my v_6.toNatClampNeg) (bl t_.toNatClampNeg) 0 _ ha0 ha (hq1 c_2 c_3 c_4)) (q_V 3 hg wg_300 wg_298 wg_299 wg_10 wg_15 rfl rfl (by decide +kernel) ⟨Nat.le_of_ble_eq_true rfl, Nat.le_of_ble_eq_true rfl⟩) ⟨wx_blind, va_recv hK hPc (ci := 2) (q0 := 0) rfl rfl, wx_pre (as := .ref g :: [.long (my v_6.toNatClampNeg), .long (bl t_.toNatClampNeg), .int 0]) hPc hK hDc⟩ rfl rfl hl.1 rfl (lv_room (Nat.le_of_ble_eq_true rfl)) d_M_join_103 ⟨Nat.le_of_ble_eq_true rfl, Nat.le_of_ble_eq_true rfl⟩) hS (fun q _ h => hFc q h) hFc (fun r_31 u t H1 locs ht hvm hw_32 hB hz1 hk1 hS => ?_)
            obtain ⟨up_27, dn_28, mu_29, am_30⟩ := u
            obtain ⟨hP1, hK1, hD1⟩ := hB
            rw [ht] at hP1
            obtain ⟨hP, hD⟩ := va_join (wr := [(m4, .inl (cI, 4, .inl rw_)), (m5, .inl (cJ, 64, .inr (.inl mx))), (m6, .inl (cJ, 64, .inr (.inl my))), (m7, .inl (cJ, 4, .inr (.inl bl)))]) (w1 := [(g, .inr (2, [.int 0, .int am_30, .ref m1, .ref m2, .ref m3, .ref m4, .ref m5, .ref m6, .ref m7, .int wc, .ref m8])), (m1, .inl (cJ, 500, .inr (.inl up_27))), (m2, .inl (cJ, 500, .inr (.inl dn_28))), (m3, .inl (cI, 500, .inl mu_29))]) hP hD [0, 1, 2, 3] [4, 5, 6, 7] rfl rfl (by decide) (by decide) hk1 hFc hP1 hD1
            generalize H1 = H at hP hS ⊢
            have hP : va_P (dC, dI) classes [(m4, .inl (cI, 4, .inl rw_)), (m5, .inl (cJ, 64, .inr (.inl mx))), (m6, .inl (cJ, 64, .inr (.inl my))), (m7, .inl (cJ, 4, .inr (.inl bl))), (g, .inr (2, [.int 0, .int am_30, .ref m1, .ref m2, .ref m3, .ref m4, .ref m5, .ref m6, .ref m7, .int wc, .ref m8])), (m1, .inl (cJ, 500, .inr (.inl up_27))), (m2, .inl (cJ, 500, .inr (.inl dn_28))), (m3, .inl (cI, 500, .inl mu_29))] H := hP
            have hD : va_D A [(m4, .inl (cI, 4, .inl rw_)), (m5, .inl (cJ, 64, .inr (.inl mx))), (m6, .inl (cJ, 64, .inr (.inl my))), (m7, .inl (cJ, 4, .inr (.inl bl))), (g, .inr (2, [.int 0, .int am_30, .ref m1, .ref m2, .ref m3, .ref m4, .ref m5, .ref m6, .ref m7, .int wc, .ref m8])), (m1, .inl (cJ, 500, .inr (.inl up_27))), (m2, .inl (cJ, 500, .inr (.inl dn_28))), (m3, .inl (cI, 500, .inl mu_29))] := hD
            subst ev_7
            subst ev_6
            subst ev_5
            have hP9 := hP.sub (ws' := [(g, .inr (2, [.int 0, .int am_30, .ref m1, .ref m2, .ref m3, .ref m4, .ref m5, .ref m6, .ref m7, .int wc, .ref m8])), (m1, .inl (cJ, 500, .inr (.inl up_27))), (m2, .inl (cJ, 500, .inr (.inl dn_28))), (m3, .inl (cI, 500, .inl mu_29)), (m4, .inl (cI, 4, .inl rw_)), (m5, .inl (cJ, 64, .inr (.inl mx))), (m6, .inl (cJ, 64, .inr (.inl my))), (m7, .inl (cJ, 4, .inr (.inl bl)))]) [4, 5, 6, 7, 0, 1, 2, 3] rfl
            have hD9 := hD.sub (ws' := [(g, .inr (2, [.int 0, .int am_30, .ref m1, .ref m2, .ref m3, .ref m4, .ref m5, .ref m6, .ref m7, .int wc, .ref m8])), (m1, .inl (cJ, 500, .inr (.inl up_27))), (m2, .inl (cJ, 500, .inr (.inl dn_28))), (m3, .inl (cI, 500, .inl mu_29)), (m4, .inl (cI, 4, .inl rw_)), (m5, .inl (cJ, 64, .inr (.inl mx))), (m6, .inl (cJ, 64, .inr (.inl my))), (m7, .inl (cJ, 4, .inr (.inl bl)))]) [4, 5, 6, 7, 0, 1, 2, 3] (by decide) rfl
            have hz : (r_31, (0, up_27, dn_28, mu_29, am_30)) = f_M_join up dn mu am rw_ mx my bl t_ a := by unfold f_M_join; rw [if_neg c_1, if_neg c_2, if_pos c_3, if_neg c_4, if_neg c_8]; exact congrArg (mk5 0) hw_32
            exact W.iret (v := r_31) hx hb hr (fun t ht hW => ⟨⟨r_31, (0, up_27, dn_28, mu_29, am_30), rfl, hz, wb_of ht hW hP9 hK hD9⟩, hS.F ht⟩) hS.2.2 d_M_join_106
        · skip
          refine lv_iconst (v := (-1)) hx hb d_M_join_34 (by decide) ?_
          have hP9 := hP.sub (ws' := [(g, .inr (2, [.int 0, .int am, .ref m1, .ref m2, .ref m3, .ref m4, .ref m5, .ref m6, .ref m7, .int wc, .ref m8])), (m1, .inl (cJ, 500, .inr (.inl up))), (m2, .inl (cJ, 500, .inr (.inl dn))), (m3, .inl (cI, 500, .inl mu)), (m4, .inl (cI, 4, .inl rw_)), (m5, .inl (cJ, 64, .inr (.inl mx))), (m6, .inl (cJ, 64, .inr (.inl my))), (m7, .inl (cJ, 4, .inr (.inl bl)))]) [0, 1, 2, 3, 4, 5, 6, 7] rfl
          have hD9 := hD.sub (ws' := [(g, .inr (2, [.int 0, .int am, .ref m1, .ref m2, .ref m3, .ref m4, .ref m5, .ref m6, .ref m7, .int wc, .ref m8])), (m1, .inl (cJ, 500, .inr (.inl up))), (m2, .inl (cJ, 500, .inr (.inl dn))), (m3, .inl (cI, 500, .inl mu)), (m4, .inl (cI, 4, .inl rw_)), (m5, .inl (cJ, 64, .inr (.inl mx))), (m6, .inl (cJ, 64, .inr (.inl my))), (m7, .inl (cJ, 4, .inr (.inl bl)))]) [0, 1, 2, 3, 4, 5, 6, 7] (by decide) rfl
          have hz : ((-1), (0, up, dn, mu, am)) = f_M_join up dn mu am rw_ mx my bl t_ a := by unfold f_M_join; rw [if_neg c_1, if_neg c_2, if_pos c_3, if_pos c_4]
          exact W.iret (v := (-1)) hx hb hr (fun t ht hW => ⟨⟨(-1), (0, up, dn, mu, am), rfl, hz, wb_of ht hW hP9 hK hD9⟩, hS.F ht⟩) hS.2.2 d_M_join_35
      · skip
        refine lv_bipush (v := (-3)) hx hb d_M_join_22 (by decide) ?_
        have hP9 := hP.sub (ws' := [(g, .inr (2, [.int 0, .int am, .ref m1, .ref m2, .ref m3, .ref m4, .ref m5, .ref m6, .ref m7, .int wc, .ref m8])), (m1, .inl (cJ, 500, .inr (.inl up))), (m2, .inl (cJ, 500, .inr (.inl dn))), (m3, .inl (cI, 500, .inl mu)), (m4, .inl (cI, 4, .inl rw_)), (m5, .inl (cJ, 64, .inr (.inl mx))), (m6, .inl (cJ, 64, .inr (.inl my))), (m7, .inl (cJ, 4, .inr (.inl bl)))]) [0, 1, 2, 3, 4, 5, 6, 7] rfl
        have hD9 := hD.sub (ws' := [(g, .inr (2, [.int 0, .int am, .ref m1, .ref m2, .ref m3, .ref m4, .ref m5, .ref m6, .ref m7, .int wc, .ref m8])), (m1, .inl (cJ, 500, .inr (.inl up))), (m2, .inl (cJ, 500, .inr (.inl dn))), (m3, .inl (cI, 500, .inl mu)), (m4, .inl (cI, 4, .inl rw_)), (m5, .inl (cJ, 64, .inr (.inl mx))), (m6, .inl (cJ, 64, .inr (.inl my))), (m7, .inl (cJ, 4, .inr (.inl bl)))]) [0, 1, 2, 3, 4, 5, 6, 7] (by decide) rfl
        have hz : ((-3), (0, up, dn, mu, am)) = f_M_join up dn mu am rw_ mx my bl t_ a := by unfold f_M_join; rw [if_neg c_1, if_neg c_2, if_neg c_3]
        exact W.iret (v := (-3)) hx hb hr (fun t ht hW => ⟨⟨(-3), (0, up, dn, mu, am), rfl, hz, wb_of ht hW hP9 hK hD9⟩, hS.F ht⟩) hS.2.2 d_M_join_24
