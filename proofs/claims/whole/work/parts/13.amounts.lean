def f_X_add (ab be : Nat → Int64) (un : Nat → Int32) (n : Int32) (a : Int32) (b : Int32) : Int32 × (Nat → Int64) × (Nat → Int64) × (Nat → Int32) × Int32 := if (f_X_isAmount a n) = 0 then ((-3), (ab, be, un, n)) else if (f_X_isAmount b n) = 0 then ((-3), (ab, be, un, n)) else if (un a.toNatClampNeg) = (un b.toNatClampNeg) then (f_X_keep ab be un n (((ab a.toNatClampNeg) * (be b.toNatClampNeg)) + ((ab b.toNatClampNeg) * (be a.toNatClampNeg))) ((be a.toNatClampNeg) * (be b.toNatClampNeg)) (un a.toNatClampNeg)) else ((-1), (ab, be, un, n))
set_option maxHeartbeats 4000000 in
set_option maxRecDepth 100000 in
theorem k_X_add (l : Launch) (dC : Nat → ClassId) (dI : Nat → Nat → Nat) (cJ cI cT : ClassId) (h a1 a2 a3 a4 a5 : Nat) (n k : Int32) (ab be : Nat → Int64) (un : Nat → Int32) (a : Int32) (b : Int32) (sz : Nat) (hn0 : 0 ≤ n.toInt) (hn : n.toInt ≤ (500 : Nat)) : Met l y_X_add w_X_add ({ frames := 3, cells := 0, slots := 0, locals := 84 }) (va_Pc [.ref h, .int a, .int b] (wx dC dI cJ cI cT sz [(h, .inr (1, [.ref a1, .ref a2, .ref a3, .int n, .ref a4, .int k, .ref a5])), (a1, .inl (cJ, 500, .inr (.inl ab))), (a2, .inl (cJ, 500, .inr (.inl be))), (a3, .inl (cI, 500, .inl un))])) (va_Qi (fun (r9 : Int32) (u9 : (Nat → Int64) × (Nat → Int64) × (Nat → Int32) × Int32) => (r9, u9) = f_X_add ab be un n a b) (fun u => wb dC dI cJ cI cT (va_A [(h, .inr (1, [.ref a1, .ref a2, .ref a3, .int n, .ref a4, .int k, .ref a5])), (a1, .inl (cJ, 500, .inr (.inl ab))), (a2, .inl (cJ, 500, .inr (.inl be))), (a3, .inl (cI, 500, .inl un))] sz) [(h, .inr (1, [.ref a1, .ref a2, .ref a3, .int u.2.2.2, .ref a4, .int k, .ref a5])), (a1, .inl (cJ, 500, .inr (.inl u.1))), (a2, .inl (cJ, 500, .inr (.inl u.2.1))), (a3, .inl (cI, 500, .inl u.2.2.1))]) (va_A [(h, .inr (1, [.ref a1, .ref a2, .ref a3, .int n, .ref a4, .int k, .ref a5])), (a1, .inl (cJ, 500, .inr (.inl ab))), (a2, .inl (cJ, 500, .inr (.inl be))), (a3, .inl (cI, 500, .inl un))] sz)) 0 0 (va_A [(h, .inr (1, [.ref a1, .ref a2, .ref a3, .int n, .ref a4, .int k, .ref a5])), (a1, .inl (cJ, 500, .inr (.inl ab))), (a2, .inl (cJ, 500, .inr (.inl be))), (a3, .inl (cI, 500, .inl un))] sz) := by
  refine Met.ofW (cc := c_X_add) (maxL := 3) (ret := (Option.some Jvm.ClassFile.FieldType.int)) (by decide) rfl ?_
  intro p e s m args below meth c s₁ B hml hv
  obtain ⟨rfl, hsz, hP, hK, hD0⟩ := hv
  have hx := B.exec
  have hb := B.bytes
  have hr := B.returns
  have hts := atoms_spec (ws := w_X_add) B.pre
  have hg : ∀ w ∈ WG, w.before _ s = true := fun w h => hts w (List.mem_cons_of_mem _ h)
  have hown : s.vm.findClass R_X = some m.cls := findClass_of_methodNamed B.named
  have hlocks := B.notSynchronized
  have hl := lv_entry ([.ref h, .int a, .int b]) (n := 3) (Nat.le_of_ble_eq_true rfl)
  rw [lg_entry_eq]
  generalize (lg_sl ([.ref h, .int a, .int b]) ++ List.replicate (3 - (lg_sl ([.ref h, .int a, .int b])).length) Slot.unset).toArray = ls at hl ⊢
  have hl : lv_has ls 3 [(0, .ref h), (1, .int a), (2, .int b)] := hl
  subst hsz
  have hD := hD0.self (sz := s.heap.size)
  generalize hAe : va_A [(h, .inr (1, [.ref a1, .ref a2, .ref a3, .int n, .ref a4, .int k, .ref a5])), (a1, .inl (cJ, 500, .inr (.inl ab))), (a2, .inl (cJ, 500, .inr (.inl be))), (a3, .inl (cI, 500, .inl un))] s.heap.size = A at hD ⊢
  have hA : ∀ q : Nat, s.heap.size ≤ q → A q := fun q h => by rw [← hAe]; exact Or.inr h
  have hS : va_S A s.heap s.heap [] := va_S.rf
  have hP : va_P (dC, dI) classes [(h, .inr (1, [.ref a1, .ref a2, .ref a3, .int n, .ref a4, .int k, .ref a5])), (a1, .inl (cJ, 500, .inr (.inl ab))), (a2, .inl (cJ, 500, .inr (.inl be))), (a3, .inl (cI, 500, .inl un))] s.heap := hP
  have hD : va_D A [(h, .inr (1, [.ref a1, .ref a2, .ref a3, .int n, .ref a4, .int k, .ref a5])), (a1, .inl (cJ, 500, .inr (.inl ab))), (a2, .inl (cJ, 500, .inr (.inl be))), (a3, .inl (cI, 500, .inl un))] := hD
  skip
  refine lv_aload_n hx hb d_X_add_0 rfl (lv_at hl 0 rfl) ?_
  refine lv_iload_n hx hb d_X_add_1 rfl (lv_at hl 1 rfl) ?_
  have hPc := hP.sub (ws' := [(h, .inr (1, [.ref a1, .ref a2, .ref a3, .int n, .ref a4, .int k, .ref a5]))]) [0] rfl
  refine W.callV (W.runV (As := [.int a]) (rest := []) ⟨hx, hb, hml, hown, hg⟩ (k_X_isAmount l dC dI cJ cI cT h a1 a2 a3 a4 a5 n k a) (q_V 1 hg wg_66 wg_64 wg_65 wg_0 wg_13 rfl rfl (by decide +kernel) ⟨Nat.le_of_ble_eq_true rfl, Nat.le_of_ble_eq_true rfl⟩) ⟨wd_blind, va_recv hK hPc (ci := 1) (q0 := 0) rfl rfl, wd_pre (as := .ref h :: [.int a]) hPc hK⟩ rfl rfl hl.1 rfl (lv_room (Nat.le_of_ble_eq_true rfl)) d_X_add_2 ⟨Nat.le_of_ble_eq_true rfl, Nat.le_of_ble_eq_true rfl⟩) ?_
  refine W.eq (g2 := F0 m 5 ls (.int (f_X_isAmount a n) :: [])) rfl ?_
  refine lv_if_eq (tgt := 16) hx hb d_X_add_5 (by decide) (fun c_1 => ?_) (fun c_1 => ?_)
  · skip
    refine lv_bipush (v := (-3)) hx hb d_X_add_16 (by decide) ?_
    have hP9 := hP.sub (ws' := [(h, .inr (1, [.ref a1, .ref a2, .ref a3, .int n, .ref a4, .int k, .ref a5])), (a1, .inl (cJ, 500, .inr (.inl ab))), (a2, .inl (cJ, 500, .inr (.inl be))), (a3, .inl (cI, 500, .inl un))]) [0, 1, 2, 3] rfl
    have hD9 := hD.sub (ws' := [(h, .inr (1, [.ref a1, .ref a2, .ref a3, .int n, .ref a4, .int k, .ref a5])), (a1, .inl (cJ, 500, .inr (.inl ab))), (a2, .inl (cJ, 500, .inr (.inl be))), (a3, .inl (cI, 500, .inl un))]) [0, 1, 2, 3] (by decide) rfl
    have hz : ((-3), (ab, be, un, n)) = f_X_add ab be un n a b := by unfold f_X_add; rw [if_pos c_1]
    exact W.iret (v := (-3)) hx hb hr (fun t ht hW => ⟨⟨(-3), (ab, be, un, n), rfl, hz, wb_of ht hW hP9 hK hD9⟩, hS.F ht⟩) hS.2.2 d_X_add_18
  · skip
    refine lv_aload_n hx hb d_X_add_8 rfl (lv_at hl 0 rfl) ?_
    refine lv_iload_n hx hb d_X_add_9 rfl (lv_at hl 2 rfl) ?_
    have hPc := hP.sub (ws' := [(h, .inr (1, [.ref a1, .ref a2, .ref a3, .int n, .ref a4, .int k, .ref a5]))]) [0] rfl
    refine W.callV (W.runV (As := [.int b]) (rest := []) ⟨hx, hb, hml, hown, hg⟩ (k_X_isAmount l dC dI cJ cI cT h a1 a2 a3 a4 a5 n k b) (q_V 1 hg wg_66 wg_64 wg_65 wg_0 wg_13 rfl rfl (by decide +kernel) ⟨Nat.le_of_ble_eq_true rfl, Nat.le_of_ble_eq_true rfl⟩) ⟨wd_blind, va_recv hK hPc (ci := 1) (q0 := 0) rfl rfl, wd_pre (as := .ref h :: [.int b]) hPc hK⟩ rfl rfl hl.1 rfl (lv_room (Nat.le_of_ble_eq_true rfl)) d_X_add_10 ⟨Nat.le_of_ble_eq_true rfl, Nat.le_of_ble_eq_true rfl⟩) ?_
    refine W.eq (g2 := F0 m 13 ls (.int (f_X_isAmount b n) :: [])) rfl ?_
    refine lv_if_ne (tgt := 19) hx hb d_X_add_13 (by decide) (fun c_2 => ?_) (fun c_2 => ?_)
    · skip
      refine lv_aload_n hx hb d_X_add_19 rfl (lv_at hl 0 rfl) ?_
      refine va_get (D := (dC, dI)) (ci := 1) (v := .ref a3) (C := R_X) (T := F_X) (N := 7) hx hb hg in_X hown hK hP 0 rfl rfl 2 (by decide) (hg _ wg_48) (fun _ h9 => h9) rfl d_X_add_20 ?_
      refine lv_iload_n hx hb d_X_add_23 rfl (lv_at hl 1 rfl) ?_
      refine va_iald hx hb hK hP 3 1 rfl rfl (am_in c_1 hn) d_X_add_24 ?_
      refine lv_aload_n hx hb d_X_add_25 rfl (lv_at hl 0 rfl) ?_
      refine va_get (D := (dC, dI)) (ci := 1) (v := .ref a3) (C := R_X) (T := F_X) (N := 7) hx hb hg in_X hown hK hP 0 rfl rfl 2 (by decide) (hg _ wg_48) (fun _ h9 => h9) rfl d_X_add_26 ?_
      refine lv_iload_n hx hb d_X_add_29 rfl (lv_at hl 2 rfl) ?_
      refine va_iald hx hb hK hP 3 1 rfl rfl (am_in c_2 hn) d_X_add_30 ?_
      refine lv_icmp_eq (tgt := 36) hx hb d_X_add_31 (by decide) (fun c_3 => ?_) (fun c_3 => ?_)
      · skip
        refine lv_aload_n hx hb d_X_add_36 rfl (lv_at hl 0 rfl) ?_
        refine lv_aload_n hx hb d_X_add_37 rfl (lv_at hl 0 rfl) ?_
        refine va_get (D := (dC, dI)) (ci := 1) (v := .ref a1) (C := R_X) (T := F_X) (N := 7) hx hb hg in_X hown hK hP 0 rfl rfl 0 (by decide) (hg _ wg_46) (fun _ h9 => h9) rfl d_X_add_38 ?_
        refine lv_iload_n hx hb d_X_add_41 rfl (lv_at hl 1 rfl) ?_
        refine va_lald hx hb hK hP 1 0 rfl rfl (am_in c_1 hn) d_X_add_42 ?_
        refine lv_aload_n hx hb d_X_add_43 rfl (lv_at hl 0 rfl) ?_
        refine va_get (D := (dC, dI)) (ci := 1) (v := .ref a2) (C := R_X) (T := F_X) (N := 7) hx hb hg in_X hown hK hP 0 rfl rfl 1 (by decide) (hg _ wg_47) (fun _ h9 => h9) rfl d_X_add_44 ?_
        refine lv_iload_n hx hb d_X_add_47 rfl (lv_at hl 2 rfl) ?_
        refine va_lald hx hb hK hP 2 0 rfl rfl (am_in c_2 hn) d_X_add_48 ?_
        refine lv_lmul hx hb d_X_add_49 ?_
        refine lv_aload_n hx hb d_X_add_50 rfl (lv_at hl 0 rfl) ?_
        refine va_get (D := (dC, dI)) (ci := 1) (v := .ref a1) (C := R_X) (T := F_X) (N := 7) hx hb hg in_X hown hK hP 0 rfl rfl 0 (by decide) (hg _ wg_46) (fun _ h9 => h9) rfl d_X_add_51 ?_
        refine lv_iload_n hx hb d_X_add_54 rfl (lv_at hl 2 rfl) ?_
        refine va_lald hx hb hK hP 1 0 rfl rfl (am_in c_2 hn) d_X_add_55 ?_
        refine lv_aload_n hx hb d_X_add_56 rfl (lv_at hl 0 rfl) ?_
        refine va_get (D := (dC, dI)) (ci := 1) (v := .ref a2) (C := R_X) (T := F_X) (N := 7) hx hb hg in_X hown hK hP 0 rfl rfl 1 (by decide) (hg _ wg_47) (fun _ h9 => h9) rfl d_X_add_57 ?_
        refine lv_iload_n hx hb d_X_add_60 rfl (lv_at hl 1 rfl) ?_
        refine va_lald hx hb hK hP 2 0 rfl rfl (am_in c_1 hn) d_X_add_61 ?_
        refine lv_lmul hx hb d_X_add_62 ?_
        refine lv_ladd hx hb d_X_add_63 ?_
        refine lv_aload_n hx hb d_X_add_64 rfl (lv_at hl 0 rfl) ?_
        refine va_get (D := (dC, dI)) (ci := 1) (v := .ref a2) (C := R_X) (T := F_X) (N := 7) hx hb hg in_X hown hK hP 0 rfl rfl 1 (by decide) (hg _ wg_47) (fun _ h9 => h9) rfl d_X_add_65 ?_
        refine lv_iload_n hx hb d_X_add_68 rfl (lv_at hl 1 rfl) ?_
        refine va_lald hx hb hK hP 2 0 rfl rfl (am_in c_1 hn) d_X_add_69 ?_
        refine lv_aload_n hx hb d_X_add_70 rfl (lv_at hl 0 rfl) ?_
        refine va_get (D := (dC, dI)) (ci := 1) (v := .ref a2) (C := R_X) (T := F_X) (N := 7) hx hb hg in_X hown hK hP 0 rfl rfl 1 (by decide) (hg _ wg_47) (fun _ h9 => h9) rfl d_X_add_71 ?_
        refine lv_iload_n hx hb d_X_add_74 rfl (lv_at hl 2 rfl) ?_
        refine va_lald hx hb hK hP 2 0 rfl rfl (am_in c_2 hn) d_X_add_75 ?_
        refine lv_lmul hx hb d_X_add_76 ?_
        refine lv_aload_n hx hb d_X_add_77 rfl (lv_at hl 0 rfl) ?_
        refine va_get (D := (dC, dI)) (ci := 1) (v := .ref a3) (C := R_X) (T := F_X) (N := 7) hx hb hg in_X hown hK hP 0 rfl rfl 2 (by decide) (hg _ wg_48) (fun _ h9 => h9) rfl d_X_add_78 ?_
        refine lv_iload_n hx hb d_X_add_81 rfl (lv_at hl 1 rfl) ?_
        refine va_iald hx hb hK hP 3 1 rfl rfl (am_in c_1 hn) d_X_add_82 ?_
        have hPc := hP.sub (ws' := [(h, .inr (1, [.ref a1, .ref a2, .ref a3, .int n, .ref a4, .int k, .ref a5])), (a1, .inl (cJ, 500, .inr (.inl ab))), (a2, .inl (cJ, 500, .inr (.inl be))), (a3, .inl (cI, 500, .inl un))]) [0, 1, 2, 3] rfl
        have hDc := hD.sub (ws' := [(h, .inr (1, [.ref a1, .ref a2, .ref a3, .int n, .ref a4, .int k, .ref a5])), (a1, .inl (cJ, 500, .inr (.inl ab))), (a2, .inl (cJ, 500, .inr (.inl be))), (a3, .inl (cI, 500, .inl un))]) [0, 1, 2, 3] (by decide) rfl
        have hFc := va_free (wc := [(h, .inr (1, [.ref a1, .ref a2, .ref a3, .int n, .ref a4, .int k, .ref a5])), (a1, .inl (cJ, 500, .inr (.inl ab))), (a2, .inl (cJ, 500, .inr (.inl be))), (a3, .inl (cI, 500, .inl un))]) hD hS hA [0, 1, 2, 3] rfl
        refine va_calli (va_runV (As := [.long (((ab a.toNatClampNeg) * (be b.toNatClampNeg)) + ((ab b.toNatClampNeg) * (be a.toNatClampNeg))), .long ((be a.toNatClampNeg) * (be b.toNatClampNeg)), .int (un a.toNatClampNeg)]) (rest := []) ⟨hx, hb, hml, hown, hg⟩ (k_X_keep l dC dI cJ cI cT h a1 a2 a3 a4 a5 n k ab be un (((ab a.toNatClampNeg) * (be b.toNatClampNeg)) + ((ab b.toNatClampNeg) * (be a.toNatClampNeg))) ((be a.toNatClampNeg) * (be b.toNatClampNeg)) (un a.toNatClampNeg) _ hn0) (q_V 3 hg wg_69 wg_67 wg_68 wg_1 wg_13 rfl rfl (by decide +kernel) ⟨Nat.le_of_ble_eq_true rfl, Nat.le_of_ble_eq_true rfl⟩) ⟨wx_blind, va_recv hK hPc (ci := 1) (q0 := 0) rfl rfl, wx_pre (as := .ref h :: [.long (((ab a.toNatClampNeg) * (be b.toNatClampNeg)) + ((ab b.toNatClampNeg) * (be a.toNatClampNeg))), .long ((be a.toNatClampNeg) * (be b.toNatClampNeg)), .int (un a.toNatClampNeg)]) hPc hK hDc⟩ rfl rfl hl.1 rfl (lv_room (Nat.le_of_ble_eq_true rfl)) d_X_add_83 ⟨Nat.le_of_ble_eq_true rfl, Nat.le_of_ble_eq_true rfl⟩) hS (fun q _ h => hFc q h) hFc (fun r_8 u t H1 locs ht hvm hw_9 hB hz1 hk1 hS => ?_)
        obtain ⟨ab_4, be_5, un_6, n_7⟩ := u
        obtain ⟨hP1, hK1, hD1⟩ := hB
        rw [ht] at hP1
        obtain ⟨hP, hD⟩ := va_join (wr := []) (w1 := [(h, .inr (1, [.ref a1, .ref a2, .ref a3, .int n_7, .ref a4, .int k, .ref a5])), (a1, .inl (cJ, 500, .inr (.inl ab_4))), (a2, .inl (cJ, 500, .inr (.inl be_5))), (a3, .inl (cI, 500, .inl un_6))]) hP hD [0, 1, 2, 3] [] rfl rfl (by decide) (by decide) hk1 hFc hP1 hD1
        generalize H1 = H at hP hS ⊢
        have hP : va_P (dC, dI) classes [(h, .inr (1, [.ref a1, .ref a2, .ref a3, .int n_7, .ref a4, .int k, .ref a5])), (a1, .inl (cJ, 500, .inr (.inl ab_4))), (a2, .inl (cJ, 500, .inr (.inl be_5))), (a3, .inl (cI, 500, .inl un_6))] H := hP
        have hD : va_D A [(h, .inr (1, [.ref a1, .ref a2, .ref a3, .int n_7, .ref a4, .int k, .ref a5])), (a1, .inl (cJ, 500, .inr (.inl ab_4))), (a2, .inl (cJ, 500, .inr (.inl be_5))), (a3, .inl (cI, 500, .inl un_6))] := hD
        have hP9 := hP.sub (ws' := [(h, .inr (1, [.ref a1, .ref a2, .ref a3, .int n_7, .ref a4, .int k, .ref a5])), (a1, .inl (cJ, 500, .inr (.inl ab_4))), (a2, .inl (cJ, 500, .inr (.inl be_5))), (a3, .inl (cI, 500, .inl un_6))]) [0, 1, 2, 3] rfl
        have hD9 := hD.sub (ws' := [(h, .inr (1, [.ref a1, .ref a2, .ref a3, .int n_7, .ref a4, .int k, .ref a5])), (a1, .inl (cJ, 500, .inr (.inl ab_4))), (a2, .inl (cJ, 500, .inr (.inl be_5))), (a3, .inl (cI, 500, .inl un_6))]) [0, 1, 2, 3] (by decide) rfl
        have hz : (r_8, (ab_4, be_5, un_6, n_7)) = f_X_add ab be un n a b := by unfold f_X_add; rw [if_neg c_1, if_neg c_2, if_pos c_3]; exact hw_9
        exact W.iret (v := r_8) hx hb hr (fun t ht hW => ⟨⟨r_8, (ab_4, be_5, un_6, n_7), rfl, hz, wb_of ht hW hP9 hK hD9⟩, hS.F ht⟩) hS.2.2 d_X_add_86
      · skip
        refine lv_iconst (v := (-1)) hx hb d_X_add_34 (by decide) ?_
        have hP9 := hP.sub (ws' := [(h, .inr (1, [.ref a1, .ref a2, .ref a3, .int n, .ref a4, .int k, .ref a5])), (a1, .inl (cJ, 500, .inr (.inl ab))), (a2, .inl (cJ, 500, .inr (.inl be))), (a3, .inl (cI, 500, .inl un))]) [0, 1, 2, 3] rfl
        have hD9 := hD.sub (ws' := [(h, .inr (1, [.ref a1, .ref a2, .ref a3, .int n, .ref a4, .int k, .ref a5])), (a1, .inl (cJ, 500, .inr (.inl ab))), (a2, .inl (cJ, 500, .inr (.inl be))), (a3, .inl (cI, 500, .inl un))]) [0, 1, 2, 3] (by decide) rfl
        have hz : ((-1), (ab, be, un, n)) = f_X_add ab be un n a b := by unfold f_X_add; rw [if_neg c_1, if_neg c_2, if_neg c_3]
        exact W.iret (v := (-1)) hx hb hr (fun t ht hW => ⟨⟨(-1), (ab, be, un, n), rfl, hz, wb_of ht hW hP9 hK hD9⟩, hS.F ht⟩) hS.2.2 d_X_add_35
    · skip
      refine lv_bipush (v := (-3)) hx hb d_X_add_16 (by decide) ?_
      have hP9 := hP.sub (ws' := [(h, .inr (1, [.ref a1, .ref a2, .ref a3, .int n, .ref a4, .int k, .ref a5])), (a1, .inl (cJ, 500, .inr (.inl ab))), (a2, .inl (cJ, 500, .inr (.inl be))), (a3, .inl (cI, 500, .inl un))]) [0, 1, 2, 3] rfl
      have hD9 := hD.sub (ws' := [(h, .inr (1, [.ref a1, .ref a2, .ref a3, .int n, .ref a4, .int k, .ref a5])), (a1, .inl (cJ, 500, .inr (.inl ab))), (a2, .inl (cJ, 500, .inr (.inl be))), (a3, .inl (cI, 500, .inl un))]) [0, 1, 2, 3] (by decide) rfl
      have hz : ((-3), (ab, be, un, n)) = f_X_add ab be un n a b := by unfold f_X_add; rw [if_neg c_1, if_pos c_2]
      exact W.iret (v := (-3)) hx hb hr (fun t ht hW => ⟨⟨(-3), (ab, be, un, n), rfl, hz, wb_of ht hW hP9 hK hD9⟩, hS.F ht⟩) hS.2.2 d_X_add_18
def f_X_times (ab be : Nat → Int64) (un : Nat → Int32) (n : Int32) (a : Int32) (b : Int32) : Int32 × (Nat → Int64) × (Nat → Int64) × (Nat → Int32) × Int32 := if (f_X_isAmount a n) = 0 then ((-3), (ab, be, un, n)) else if (f_X_isAmount b n) = 0 then ((-3), (ab, be, un, n)) else if (f_X_unitOfProduct (un a.toNatClampNeg) (un b.toNatClampNeg)) = (-1) then ((-1), (ab, be, un, n)) else (f_X_keep ab be un n ((ab a.toNatClampNeg) * (ab b.toNatClampNeg)) ((be a.toNatClampNeg) * (be b.toNatClampNeg)) (f_X_unitOfProduct (un a.toNatClampNeg) (un b.toNatClampNeg)))
set_option maxHeartbeats 4000000 in
set_option maxRecDepth 100000 in
theorem k_X_times (l : Launch) (dC : Nat → ClassId) (dI : Nat → Nat → Nat) (cJ cI cT : ClassId) (h a1 a2 a3 a4 a5 : Nat) (n k : Int32) (ab be : Nat → Int64) (un : Nat → Int32) (a : Int32) (b : Int32) (sz : Nat) (hn0 : 0 ≤ n.toInt) (hn : n.toInt ≤ (500 : Nat)) : Met l y_X_times w_X_times ({ frames := 3, cells := 0, slots := 0, locals := 84 }) (va_Pc [.ref h, .int a, .int b] (wx dC dI cJ cI cT sz [(h, .inr (1, [.ref a1, .ref a2, .ref a3, .int n, .ref a4, .int k, .ref a5])), (a1, .inl (cJ, 500, .inr (.inl ab))), (a2, .inl (cJ, 500, .inr (.inl be))), (a3, .inl (cI, 500, .inl un))])) (va_Qi (fun (r9 : Int32) (u9 : (Nat → Int64) × (Nat → Int64) × (Nat → Int32) × Int32) => (r9, u9) = f_X_times ab be un n a b) (fun u => wb dC dI cJ cI cT (va_A [(h, .inr (1, [.ref a1, .ref a2, .ref a3, .int n, .ref a4, .int k, .ref a5])), (a1, .inl (cJ, 500, .inr (.inl ab))), (a2, .inl (cJ, 500, .inr (.inl be))), (a3, .inl (cI, 500, .inl un))] sz) [(h, .inr (1, [.ref a1, .ref a2, .ref a3, .int u.2.2.2, .ref a4, .int k, .ref a5])), (a1, .inl (cJ, 500, .inr (.inl u.1))), (a2, .inl (cJ, 500, .inr (.inl u.2.1))), (a3, .inl (cI, 500, .inl u.2.2.1))]) (va_A [(h, .inr (1, [.ref a1, .ref a2, .ref a3, .int n, .ref a4, .int k, .ref a5])), (a1, .inl (cJ, 500, .inr (.inl ab))), (a2, .inl (cJ, 500, .inr (.inl be))), (a3, .inl (cI, 500, .inl un))] sz)) 0 0 (va_A [(h, .inr (1, [.ref a1, .ref a2, .ref a3, .int n, .ref a4, .int k, .ref a5])), (a1, .inl (cJ, 500, .inr (.inl ab))), (a2, .inl (cJ, 500, .inr (.inl be))), (a3, .inl (cI, 500, .inl un))] sz) := by
  refine Met.ofW (cc := c_X_times) (maxL := 4) (ret := (Option.some Jvm.ClassFile.FieldType.int)) (by decide) rfl ?_
  intro p e s m args below meth c s₁ B hml hv
  obtain ⟨rfl, hsz, hP, hK, hD0⟩ := hv
  have hx := B.exec
  have hb := B.bytes
  have hr := B.returns
  have hts := atoms_spec (ws := w_X_times) B.pre
  have hg : ∀ w ∈ WG, w.before _ s = true := fun w h => hts w (List.mem_cons_of_mem _ h)
  have hown : s.vm.findClass R_X = some m.cls := findClass_of_methodNamed B.named
  have hlocks := B.notSynchronized
  have hl := lv_entry ([.ref h, .int a, .int b]) (n := 4) (Nat.le_of_ble_eq_true rfl)
  rw [lg_entry_eq]
  generalize (lg_sl ([.ref h, .int a, .int b]) ++ List.replicate (4 - (lg_sl ([.ref h, .int a, .int b])).length) Slot.unset).toArray = ls at hl ⊢
  have hl : lv_has ls 4 [(0, .ref h), (1, .int a), (2, .int b)] := hl
  subst hsz
  have hD := hD0.self (sz := s.heap.size)
  generalize hAe : va_A [(h, .inr (1, [.ref a1, .ref a2, .ref a3, .int n, .ref a4, .int k, .ref a5])), (a1, .inl (cJ, 500, .inr (.inl ab))), (a2, .inl (cJ, 500, .inr (.inl be))), (a3, .inl (cI, 500, .inl un))] s.heap.size = A at hD ⊢
  have hA : ∀ q : Nat, s.heap.size ≤ q → A q := fun q h => by rw [← hAe]; exact Or.inr h
  have hS : va_S A s.heap s.heap [] := va_S.rf
  have hP : va_P (dC, dI) classes [(h, .inr (1, [.ref a1, .ref a2, .ref a3, .int n, .ref a4, .int k, .ref a5])), (a1, .inl (cJ, 500, .inr (.inl ab))), (a2, .inl (cJ, 500, .inr (.inl be))), (a3, .inl (cI, 500, .inl un))] s.heap := hP
  have hD : va_D A [(h, .inr (1, [.ref a1, .ref a2, .ref a3, .int n, .ref a4, .int k, .ref a5])), (a1, .inl (cJ, 500, .inr (.inl ab))), (a2, .inl (cJ, 500, .inr (.inl be))), (a3, .inl (cI, 500, .inl un))] := hD
  skip
  refine lv_aload_n hx hb d_X_times_0 rfl (lv_at hl 0 rfl) ?_
  refine lv_iload_n hx hb d_X_times_1 rfl (lv_at hl 1 rfl) ?_
  have hPc := hP.sub (ws' := [(h, .inr (1, [.ref a1, .ref a2, .ref a3, .int n, .ref a4, .int k, .ref a5]))]) [0] rfl
  refine W.callV (W.runV (As := [.int a]) (rest := []) ⟨hx, hb, hml, hown, hg⟩ (k_X_isAmount l dC dI cJ cI cT h a1 a2 a3 a4 a5 n k a) (q_V 1 hg wg_66 wg_64 wg_65 wg_0 wg_13 rfl rfl (by decide +kernel) ⟨Nat.le_of_ble_eq_true rfl, Nat.le_of_ble_eq_true rfl⟩) ⟨wd_blind, va_recv hK hPc (ci := 1) (q0 := 0) rfl rfl, wd_pre (as := .ref h :: [.int a]) hPc hK⟩ rfl rfl hl.1 rfl (lv_room (Nat.le_of_ble_eq_true rfl)) d_X_times_2 ⟨Nat.le_of_ble_eq_true rfl, Nat.le_of_ble_eq_true rfl⟩) ?_
  refine W.eq (g2 := F0 m 5 ls (.int (f_X_isAmount a n) :: [])) rfl ?_
  refine lv_if_eq (tgt := 16) hx hb d_X_times_5 (by decide) (fun c_1 => ?_) (fun c_1 => ?_)
  · skip
    refine lv_bipush (v := (-3)) hx hb d_X_times_16 (by decide) ?_
    have hP9 := hP.sub (ws' := [(h, .inr (1, [.ref a1, .ref a2, .ref a3, .int n, .ref a4, .int k, .ref a5])), (a1, .inl (cJ, 500, .inr (.inl ab))), (a2, .inl (cJ, 500, .inr (.inl be))), (a3, .inl (cI, 500, .inl un))]) [0, 1, 2, 3] rfl
    have hD9 := hD.sub (ws' := [(h, .inr (1, [.ref a1, .ref a2, .ref a3, .int n, .ref a4, .int k, .ref a5])), (a1, .inl (cJ, 500, .inr (.inl ab))), (a2, .inl (cJ, 500, .inr (.inl be))), (a3, .inl (cI, 500, .inl un))]) [0, 1, 2, 3] (by decide) rfl
    have hz : ((-3), (ab, be, un, n)) = f_X_times ab be un n a b := by unfold f_X_times; rw [if_pos c_1]
    exact W.iret (v := (-3)) hx hb hr (fun t ht hW => ⟨⟨(-3), (ab, be, un, n), rfl, hz, wb_of ht hW hP9 hK hD9⟩, hS.F ht⟩) hS.2.2 d_X_times_18
  · skip
    refine lv_aload_n hx hb d_X_times_8 rfl (lv_at hl 0 rfl) ?_
    refine lv_iload_n hx hb d_X_times_9 rfl (lv_at hl 2 rfl) ?_
    have hPc := hP.sub (ws' := [(h, .inr (1, [.ref a1, .ref a2, .ref a3, .int n, .ref a4, .int k, .ref a5]))]) [0] rfl
    refine W.callV (W.runV (As := [.int b]) (rest := []) ⟨hx, hb, hml, hown, hg⟩ (k_X_isAmount l dC dI cJ cI cT h a1 a2 a3 a4 a5 n k b) (q_V 1 hg wg_66 wg_64 wg_65 wg_0 wg_13 rfl rfl (by decide +kernel) ⟨Nat.le_of_ble_eq_true rfl, Nat.le_of_ble_eq_true rfl⟩) ⟨wd_blind, va_recv hK hPc (ci := 1) (q0 := 0) rfl rfl, wd_pre (as := .ref h :: [.int b]) hPc hK⟩ rfl rfl hl.1 rfl (lv_room (Nat.le_of_ble_eq_true rfl)) d_X_times_10 ⟨Nat.le_of_ble_eq_true rfl, Nat.le_of_ble_eq_true rfl⟩) ?_
    refine W.eq (g2 := F0 m 13 ls (.int (f_X_isAmount b n) :: [])) rfl ?_
    refine lv_if_ne (tgt := 19) hx hb d_X_times_13 (by decide) (fun c_2 => ?_) (fun c_2 => ?_)
    · skip
      refine lv_aload_n hx hb d_X_times_19 rfl (lv_at hl 0 rfl) ?_
      refine va_get (D := (dC, dI)) (ci := 1) (v := .ref a3) (C := R_X) (T := F_X) (N := 7) hx hb hg in_X hown hK hP 0 rfl rfl 2 (by decide) (hg _ wg_48) (fun _ h9 => h9) rfl d_X_times_20 ?_
      refine lv_iload_n hx hb d_X_times_23 rfl (lv_at hl 1 rfl) ?_
      refine va_iald hx hb hK hP 3 1 rfl rfl (am_in c_1 hn) d_X_times_24 ?_
      refine lv_aload_n hx hb d_X_times_25 rfl (lv_at hl 0 rfl) ?_
      refine va_get (D := (dC, dI)) (ci := 1) (v := .ref a3) (C := R_X) (T := F_X) (N := 7) hx hb hg in_X hown hK hP 0 rfl rfl 2 (by decide) (hg _ wg_48) (fun _ h9 => h9) rfl d_X_times_26 ?_
      refine lv_iload_n hx hb d_X_times_29 rfl (lv_at hl 2 rfl) ?_
      refine va_iald hx hb hK hP 3 1 rfl rfl (am_in c_2 hn) d_X_times_30 ?_
      refine W.callV (W.runS (As := [.int (un a.toNatClampNeg), .int (un b.toNatClampNeg)]) (rest := []) ⟨hx, hb, hml, hown, hg⟩ (k_X_unitOfProduct l (un a.toNatClampNeg) (un b.toNatClampNeg)) (q_S 2 hg wg_84 wg_82 wg_83 wg_13 rfl rfl (by decide +kernel) ⟨Nat.le_of_ble_eq_true rfl, Nat.le_of_ble_eq_true rfl⟩) ⟨nw_blind, fun _ _ _ => ⟨rfl, trivial⟩⟩ rfl rfl hl.1 rfl (lv_room (Nat.le_of_ble_eq_true rfl)) d_X_times_31 ⟨Nat.le_of_ble_eq_true rfl, Nat.le_of_ble_eq_true rfl⟩) ?_
      refine W.eq (g2 := F0 m 34 ls (.int (f_X_unitOfProduct (un a.toNatClampNeg) (un b.toNatClampNeg)) :: [])) rfl ?_
      refine lv_topi (fun v_3 ev_3 => ?_)
      refine lv_istore_n (lv' := [(3, .int v_3), (0, .ref h), (1, .int a), (2, .int b)]) hx hb d_X_times_34 rfl hl (by decide) rfl (fun ls hl => ?_)
      refine lv_iload_n hx hb d_X_times_35 rfl (lv_at hl 0 rfl) ?_
      refine lv_iconst (v := (-1)) hx hb d_X_times_36 (by decide) ?_
      refine lv_icmp_ne (tgt := 42) hx hb d_X_times_37 (by decide) (fun c_4 => ?_) (fun c_4 => ?_)
      · skip
        refine lv_aload_n hx hb d_X_times_42 rfl (lv_at hl 1 rfl) ?_
        refine lv_aload_n hx hb d_X_times_43 rfl (lv_at hl 1 rfl) ?_
        refine va_get (D := (dC, dI)) (ci := 1) (v := .ref a1) (C := R_X) (T := F_X) (N := 7) hx hb hg in_X hown hK hP 0 rfl rfl 0 (by decide) (hg _ wg_46) (fun _ h9 => h9) rfl d_X_times_44 ?_
        refine lv_iload_n hx hb d_X_times_47 rfl (lv_at hl 2 rfl) ?_
        refine va_lald hx hb hK hP 1 0 rfl rfl (am_in c_1 hn) d_X_times_48 ?_
        refine lv_aload_n hx hb d_X_times_49 rfl (lv_at hl 1 rfl) ?_
        refine va_get (D := (dC, dI)) (ci := 1) (v := .ref a1) (C := R_X) (T := F_X) (N := 7) hx hb hg in_X hown hK hP 0 rfl rfl 0 (by decide) (hg _ wg_46) (fun _ h9 => h9) rfl d_X_times_50 ?_
        refine lv_iload_n hx hb d_X_times_53 rfl (lv_at hl 3 rfl) ?_
        refine va_lald hx hb hK hP 1 0 rfl rfl (am_in c_2 hn) d_X_times_54 ?_
        refine lv_lmul hx hb d_X_times_55 ?_
        refine lv_aload_n hx hb d_X_times_56 rfl (lv_at hl 1 rfl) ?_
        refine va_get (D := (dC, dI)) (ci := 1) (v := .ref a2) (C := R_X) (T := F_X) (N := 7) hx hb hg in_X hown hK hP 0 rfl rfl 1 (by decide) (hg _ wg_47) (fun _ h9 => h9) rfl d_X_times_57 ?_
        refine lv_iload_n hx hb d_X_times_60 rfl (lv_at hl 2 rfl) ?_
        refine va_lald hx hb hK hP 2 0 rfl rfl (am_in c_1 hn) d_X_times_61 ?_
        refine lv_aload_n hx hb d_X_times_62 rfl (lv_at hl 1 rfl) ?_
        refine va_get (D := (dC, dI)) (ci := 1) (v := .ref a2) (C := R_X) (T := F_X) (N := 7) hx hb hg in_X hown hK hP 0 rfl rfl 1 (by decide) (hg _ wg_47) (fun _ h9 => h9) rfl d_X_times_63 ?_
        refine lv_iload_n hx hb d_X_times_66 rfl (lv_at hl 3 rfl) ?_
        refine va_lald hx hb hK hP 2 0 rfl rfl (am_in c_2 hn) d_X_times_67 ?_
        refine lv_lmul hx hb d_X_times_68 ?_
        refine lv_iload_n hx hb d_X_times_69 rfl (lv_at hl 0 rfl) ?_
        have hPc := hP.sub (ws' := [(h, .inr (1, [.ref a1, .ref a2, .ref a3, .int n, .ref a4, .int k, .ref a5])), (a1, .inl (cJ, 500, .inr (.inl ab))), (a2, .inl (cJ, 500, .inr (.inl be))), (a3, .inl (cI, 500, .inl un))]) [0, 1, 2, 3] rfl
        have hDc := hD.sub (ws' := [(h, .inr (1, [.ref a1, .ref a2, .ref a3, .int n, .ref a4, .int k, .ref a5])), (a1, .inl (cJ, 500, .inr (.inl ab))), (a2, .inl (cJ, 500, .inr (.inl be))), (a3, .inl (cI, 500, .inl un))]) [0, 1, 2, 3] (by decide) rfl
        have hFc := va_free (wc := [(h, .inr (1, [.ref a1, .ref a2, .ref a3, .int n, .ref a4, .int k, .ref a5])), (a1, .inl (cJ, 500, .inr (.inl ab))), (a2, .inl (cJ, 500, .inr (.inl be))), (a3, .inl (cI, 500, .inl un))]) hD hS hA [0, 1, 2, 3] rfl
        refine va_calli (va_runV (As := [.long ((ab a.toNatClampNeg) * (ab b.toNatClampNeg)), .long ((be a.toNatClampNeg) * (be b.toNatClampNeg)), .int v_3]) (rest := []) ⟨hx, hb, hml, hown, hg⟩ (k_X_keep l dC dI cJ cI cT h a1 a2 a3 a4 a5 n k ab be un ((ab a.toNatClampNeg) * (ab b.toNatClampNeg)) ((be a.toNatClampNeg) * (be b.toNatClampNeg)) v_3 _ hn0) (q_V 3 hg wg_69 wg_67 wg_68 wg_1 wg_13 rfl rfl (by decide +kernel) ⟨Nat.le_of_ble_eq_true rfl, Nat.le_of_ble_eq_true rfl⟩) ⟨wx_blind, va_recv hK hPc (ci := 1) (q0 := 0) rfl rfl, wx_pre (as := .ref h :: [.long ((ab a.toNatClampNeg) * (ab b.toNatClampNeg)), .long ((be a.toNatClampNeg) * (be b.toNatClampNeg)), .int v_3]) hPc hK hDc⟩ rfl rfl hl.1 rfl (lv_room (Nat.le_of_ble_eq_true rfl)) d_X_times_70 ⟨Nat.le_of_ble_eq_true rfl, Nat.le_of_ble_eq_true rfl⟩) hS (fun q _ h => hFc q h) hFc (fun r_9 u t H1 locs ht hvm hw_10 hB hz1 hk1 hS => ?_)
        obtain ⟨ab_5, be_6, un_7, n_8⟩ := u
        obtain ⟨hP1, hK1, hD1⟩ := hB
        rw [ht] at hP1
        obtain ⟨hP, hD⟩ := va_join (wr := []) (w1 := [(h, .inr (1, [.ref a1, .ref a2, .ref a3, .int n_8, .ref a4, .int k, .ref a5])), (a1, .inl (cJ, 500, .inr (.inl ab_5))), (a2, .inl (cJ, 500, .inr (.inl be_6))), (a3, .inl (cI, 500, .inl un_7))]) hP hD [0, 1, 2, 3] [] rfl rfl (by decide) (by decide) hk1 hFc hP1 hD1
        generalize H1 = H at hP hS ⊢
        have hP : va_P (dC, dI) classes [(h, .inr (1, [.ref a1, .ref a2, .ref a3, .int n_8, .ref a4, .int k, .ref a5])), (a1, .inl (cJ, 500, .inr (.inl ab_5))), (a2, .inl (cJ, 500, .inr (.inl be_6))), (a3, .inl (cI, 500, .inl un_7))] H := hP
        have hD : va_D A [(h, .inr (1, [.ref a1, .ref a2, .ref a3, .int n_8, .ref a4, .int k, .ref a5])), (a1, .inl (cJ, 500, .inr (.inl ab_5))), (a2, .inl (cJ, 500, .inr (.inl be_6))), (a3, .inl (cI, 500, .inl un_7))] := hD
        subst ev_3
        have hP9 := hP.sub (ws' := [(h, .inr (1, [.ref a1, .ref a2, .ref a3, .int n_8, .ref a4, .int k, .ref a5])), (a1, .inl (cJ, 500, .inr (.inl ab_5))), (a2, .inl (cJ, 500, .inr (.inl be_6))), (a3, .inl (cI, 500, .inl un_7))]) [0, 1, 2, 3] rfl
        have hD9 := hD.sub (ws' := [(h, .inr (1, [.ref a1, .ref a2, .ref a3, .int n_8, .ref a4, .int k, .ref a5])), (a1, .inl (cJ, 500, .inr (.inl ab_5))), (a2, .inl (cJ, 500, .inr (.inl be_6))), (a3, .inl (cI, 500, .inl un_7))]) [0, 1, 2, 3] (by decide) rfl
        have hz : (r_9, (ab_5, be_6, un_7, n_8)) = f_X_times ab be un n a b := by unfold f_X_times; rw [if_neg c_1, if_neg c_2, if_neg c_4]; exact hw_10
        exact W.iret (v := r_9) hx hb hr (fun t ht hW => ⟨⟨r_9, (ab_5, be_6, un_7, n_8), rfl, hz, wb_of ht hW hP9 hK hD9⟩, hS.F ht⟩) hS.2.2 d_X_times_73
      · skip
        refine lv_iconst (v := (-1)) hx hb d_X_times_40 (by decide) ?_
        subst ev_3
        have hP9 := hP.sub (ws' := [(h, .inr (1, [.ref a1, .ref a2, .ref a3, .int n, .ref a4, .int k, .ref a5])), (a1, .inl (cJ, 500, .inr (.inl ab))), (a2, .inl (cJ, 500, .inr (.inl be))), (a3, .inl (cI, 500, .inl un))]) [0, 1, 2, 3] rfl
        have hD9 := hD.sub (ws' := [(h, .inr (1, [.ref a1, .ref a2, .ref a3, .int n, .ref a4, .int k, .ref a5])), (a1, .inl (cJ, 500, .inr (.inl ab))), (a2, .inl (cJ, 500, .inr (.inl be))), (a3, .inl (cI, 500, .inl un))]) [0, 1, 2, 3] (by decide) rfl
        have hz : ((-1), (ab, be, un, n)) = f_X_times ab be un n a b := by unfold f_X_times; rw [if_neg c_1, if_neg c_2, if_pos c_4]
        exact W.iret (v := (-1)) hx hb hr (fun t ht hW => ⟨⟨(-1), (ab, be, un, n), rfl, hz, wb_of ht hW hP9 hK hD9⟩, hS.F ht⟩) hS.2.2 d_X_times_41
    · skip
      refine lv_bipush (v := (-3)) hx hb d_X_times_16 (by decide) ?_
      have hP9 := hP.sub (ws' := [(h, .inr (1, [.ref a1, .ref a2, .ref a3, .int n, .ref a4, .int k, .ref a5])), (a1, .inl (cJ, 500, .inr (.inl ab))), (a2, .inl (cJ, 500, .inr (.inl be))), (a3, .inl (cI, 500, .inl un))]) [0, 1, 2, 3] rfl
      have hD9 := hD.sub (ws' := [(h, .inr (1, [.ref a1, .ref a2, .ref a3, .int n, .ref a4, .int k, .ref a5])), (a1, .inl (cJ, 500, .inr (.inl ab))), (a2, .inl (cJ, 500, .inr (.inl be))), (a3, .inl (cI, 500, .inl un))]) [0, 1, 2, 3] (by decide) rfl
      have hz : ((-3), (ab, be, un, n)) = f_X_times ab be un n a b := by unfold f_X_times; rw [if_neg c_1, if_pos c_2]
      exact W.iret (v := (-3)) hx hb hr (fun t ht hW => ⟨⟨(-3), (ab, be, un, n), rfl, hz, wb_of ht hW hP9 hK hD9⟩, hS.F ht⟩) hS.2.2 d_X_times_18
def f_X_round (ab be : Nat → Int64) (un : Nat → Int32) (n : Int32) (a : Int32) (ru : Int32) (q : Int64) : Int32 × (Nat → Int64) × (Nat → Int64) × (Nat → Int32) × Int32 := if (f_X_isAmount a n) = 0 then ((-3), (ab, be, un, n)) else if ru < 0 then ((-1), (ab, be, un, n)) else if 6 < ru then ((-1), (ab, be, un, n)) else if q < 1 then ((-1), (ab, be, un, n)) else if q ≤ 1000000000 then if (f_X_goesUp ru (f_X_quotientDown ((ab a.toNatClampNeg) * q) (be a.toNatClampNeg)) (f_X_restOf ((ab a.toNatClampNeg) * q) (be a.toNatClampNeg)) (be a.toNatClampNeg)) = 0 then (f_X_keep ab be un n (f_X_quotientDown ((ab a.toNatClampNeg) * q) (be a.toNatClampNeg)) q (un a.toNatClampNeg)) else (f_X_keep ab be un n ((f_X_quotientDown ((ab a.toNatClampNeg) * q) (be a.toNatClampNeg)) + 1) q (un a.toNatClampNeg)) else ((-1), (ab, be, un, n))
set_option maxHeartbeats 4000000 in
set_option maxRecDepth 100000 in
theorem k_X_round (l : Launch) (dC : Nat → ClassId) (dI : Nat → Nat → Nat) (cJ cI cT : ClassId) (h a1 a2 a3 a4 a5 : Nat) (n k : Int32) (ab be : Nat → Int64) (un : Nat → Int32) (a : Int32) (ru : Int32) (q : Int64) (sz : Nat) (hn0 : 0 ≤ n.toInt) (hn : n.toInt ≤ (500 : Nat)) : Met l y_X_round w_X_round ({ frames := 3, cells := 0, slots := 0, locals := 84 }) (va_Pc [.ref h, .int a, .int ru, .long q] (wx dC dI cJ cI cT sz [(h, .inr (1, [.ref a1, .ref a2, .ref a3, .int n, .ref a4, .int k, .ref a5])), (a1, .inl (cJ, 500, .inr (.inl ab))), (a2, .inl (cJ, 500, .inr (.inl be))), (a3, .inl (cI, 500, .inl un))])) (va_Qi (fun (r9 : Int32) (u9 : (Nat → Int64) × (Nat → Int64) × (Nat → Int32) × Int32) => (r9, u9) = f_X_round ab be un n a ru q) (fun u => wb dC dI cJ cI cT (va_A [(h, .inr (1, [.ref a1, .ref a2, .ref a3, .int n, .ref a4, .int k, .ref a5])), (a1, .inl (cJ, 500, .inr (.inl ab))), (a2, .inl (cJ, 500, .inr (.inl be))), (a3, .inl (cI, 500, .inl un))] sz) [(h, .inr (1, [.ref a1, .ref a2, .ref a3, .int u.2.2.2, .ref a4, .int k, .ref a5])), (a1, .inl (cJ, 500, .inr (.inl u.1))), (a2, .inl (cJ, 500, .inr (.inl u.2.1))), (a3, .inl (cI, 500, .inl u.2.2.1))]) (va_A [(h, .inr (1, [.ref a1, .ref a2, .ref a3, .int n, .ref a4, .int k, .ref a5])), (a1, .inl (cJ, 500, .inr (.inl ab))), (a2, .inl (cJ, 500, .inr (.inl be))), (a3, .inl (cI, 500, .inl un))] sz)) 0 0 (va_A [(h, .inr (1, [.ref a1, .ref a2, .ref a3, .int n, .ref a4, .int k, .ref a5])), (a1, .inl (cJ, 500, .inr (.inl ab))), (a2, .inl (cJ, 500, .inr (.inl be))), (a3, .inl (cI, 500, .inl un))] sz) := by
  refine Met.ofW (cc := c_X_round) (maxL := 13) (ret := (Option.some Jvm.ClassFile.FieldType.int)) (by decide) rfl ?_
  intro p e s m args below meth c s₁ B hml hv
  obtain ⟨rfl, hsz, hP, hK, hD0⟩ := hv
  have hx := B.exec
  have hb := B.bytes
  have hr := B.returns
  have hts := atoms_spec (ws := w_X_round) B.pre
  have hg : ∀ w ∈ WG, w.before _ s = true := fun w h => hts w (List.mem_cons_of_mem _ h)
  have hown : s.vm.findClass R_X = some m.cls := findClass_of_methodNamed B.named
  have hlocks := B.notSynchronized
  have hl := lv_entry ([.ref h, .int a, .int ru, .long q]) (n := 13) (Nat.le_of_ble_eq_true rfl)
  rw [lg_entry_eq]
  generalize (lg_sl ([.ref h, .int a, .int ru, .long q]) ++ List.replicate (13 - (lg_sl ([.ref h, .int a, .int ru, .long q])).length) Slot.unset).toArray = ls at hl ⊢
  have hl : lv_has ls 13 [(0, .ref h), (1, .int a), (2, .int ru), (3, .long q)] := hl
  subst hsz
  have hD := hD0.self (sz := s.heap.size)
  generalize hAe : va_A [(h, .inr (1, [.ref a1, .ref a2, .ref a3, .int n, .ref a4, .int k, .ref a5])), (a1, .inl (cJ, 500, .inr (.inl ab))), (a2, .inl (cJ, 500, .inr (.inl be))), (a3, .inl (cI, 500, .inl un))] s.heap.size = A at hD ⊢
  have hA : ∀ q : Nat, s.heap.size ≤ q → A q := fun q h => by rw [← hAe]; exact Or.inr h
  have hS : va_S A s.heap s.heap [] := va_S.rf
  have hP : va_P (dC, dI) classes [(h, .inr (1, [.ref a1, .ref a2, .ref a3, .int n, .ref a4, .int k, .ref a5])), (a1, .inl (cJ, 500, .inr (.inl ab))), (a2, .inl (cJ, 500, .inr (.inl be))), (a3, .inl (cI, 500, .inl un))] s.heap := hP
  have hD : va_D A [(h, .inr (1, [.ref a1, .ref a2, .ref a3, .int n, .ref a4, .int k, .ref a5])), (a1, .inl (cJ, 500, .inr (.inl ab))), (a2, .inl (cJ, 500, .inr (.inl be))), (a3, .inl (cI, 500, .inl un))] := hD
  skip
  refine lv_aload_n hx hb d_X_round_0 rfl (lv_at hl 0 rfl) ?_
  refine lv_iload_n hx hb d_X_round_1 rfl (lv_at hl 1 rfl) ?_
  have hPc := hP.sub (ws' := [(h, .inr (1, [.ref a1, .ref a2, .ref a3, .int n, .ref a4, .int k, .ref a5]))]) [0] rfl
  refine W.callV (W.runV (As := [.int a]) (rest := []) ⟨hx, hb, hml, hown, hg⟩ (k_X_isAmount l dC dI cJ cI cT h a1 a2 a3 a4 a5 n k a) (q_V 1 hg wg_66 wg_64 wg_65 wg_0 wg_13 rfl rfl (by decide +kernel) ⟨Nat.le_of_ble_eq_true rfl, Nat.le_of_ble_eq_true rfl⟩) ⟨wd_blind, va_recv hK hPc (ci := 1) (q0 := 0) rfl rfl, wd_pre (as := .ref h :: [.int a]) hPc hK⟩ rfl rfl hl.1 rfl (lv_room (Nat.le_of_ble_eq_true rfl)) d_X_round_2 ⟨Nat.le_of_ble_eq_true rfl, Nat.le_of_ble_eq_true rfl⟩) ?_
  refine W.eq (g2 := F0 m 5 ls (.int (f_X_isAmount a n) :: [])) rfl ?_
  refine lv_if_ne (tgt := 11) hx hb d_X_round_5 (by decide) (fun c_1 => ?_) (fun c_1 => ?_)
  · skip
    refine lv_iload_n hx hb d_X_round_11 rfl (lv_at hl 2 rfl) ?_
    refine lv_if_lt (tgt := 35) hx hb d_X_round_12 (by decide) (fun c_2 => ?_) (fun c_2 => ?_)
    · skip
      refine lv_iconst (v := (-1)) hx hb d_X_round_35 (by decide) ?_
      have hP9 := hP.sub (ws' := [(h, .inr (1, [.ref a1, .ref a2, .ref a3, .int n, .ref a4, .int k, .ref a5])), (a1, .inl (cJ, 500, .inr (.inl ab))), (a2, .inl (cJ, 500, .inr (.inl be))), (a3, .inl (cI, 500, .inl un))]) [0, 1, 2, 3] rfl
      have hD9 := hD.sub (ws' := [(h, .inr (1, [.ref a1, .ref a2, .ref a3, .int n, .ref a4, .int k, .ref a5])), (a1, .inl (cJ, 500, .inr (.inl ab))), (a2, .inl (cJ, 500, .inr (.inl be))), (a3, .inl (cI, 500, .inl un))]) [0, 1, 2, 3] (by decide) rfl
      have hz : ((-1), (ab, be, un, n)) = f_X_round ab be un n a ru q := by unfold f_X_round; rw [if_neg c_1, if_pos c_2]
      exact W.iret (v := (-1)) hx hb hr (fun t ht hW => ⟨⟨(-1), (ab, be, un, n), rfl, hz, wb_of ht hW hP9 hK hD9⟩, hS.F ht⟩) hS.2.2 d_X_round_36
    · skip
      refine lv_iload_n hx hb d_X_round_15 rfl (lv_at hl 2 rfl) ?_
      refine lv_bipush (v := 6) hx hb d_X_round_16 (by decide) ?_
      refine lv_icmp_gt (tgt := 35) hx hb d_X_round_18 (by decide) (fun c_3 => ?_) (fun c_3 => ?_)
      · skip
        refine lv_iconst (v := (-1)) hx hb d_X_round_35 (by decide) ?_
        have hP9 := hP.sub (ws' := [(h, .inr (1, [.ref a1, .ref a2, .ref a3, .int n, .ref a4, .int k, .ref a5])), (a1, .inl (cJ, 500, .inr (.inl ab))), (a2, .inl (cJ, 500, .inr (.inl be))), (a3, .inl (cI, 500, .inl un))]) [0, 1, 2, 3] rfl
        have hD9 := hD.sub (ws' := [(h, .inr (1, [.ref a1, .ref a2, .ref a3, .int n, .ref a4, .int k, .ref a5])), (a1, .inl (cJ, 500, .inr (.inl ab))), (a2, .inl (cJ, 500, .inr (.inl be))), (a3, .inl (cI, 500, .inl un))]) [0, 1, 2, 3] (by decide) rfl
        have hz : ((-1), (ab, be, un, n)) = f_X_round ab be un n a ru q := by unfold f_X_round; rw [if_neg c_1, if_neg c_2, if_pos c_3]
        exact W.iret (v := (-1)) hx hb hr (fun t ht hW => ⟨⟨(-1), (ab, be, un, n), rfl, hz, wb_of ht hW hP9 hK hD9⟩, hS.F ht⟩) hS.2.2 d_X_round_36
      · skip
        refine lv_lload_n hx hb d_X_round_21 rfl (lv_at hl 3 rfl) ?_
        refine lv_lconst (v := 1) hx hb d_X_round_22 (by decide) ?_
        refine W.lcmp hx hb d_X_round_23 ?_
        refine lv_if_lt (tgt := 35) hx hb d_X_round_24 (by decide) (fun c_4 => ?_) (fun c_4 => ?_)
        · skip
          rw [lg_cmp_lt] at c_4
          refine lv_iconst (v := (-1)) hx hb d_X_round_35 (by decide) ?_
          have hP9 := hP.sub (ws' := [(h, .inr (1, [.ref a1, .ref a2, .ref a3, .int n, .ref a4, .int k, .ref a5])), (a1, .inl (cJ, 500, .inr (.inl ab))), (a2, .inl (cJ, 500, .inr (.inl be))), (a3, .inl (cI, 500, .inl un))]) [0, 1, 2, 3] rfl
          have hD9 := hD.sub (ws' := [(h, .inr (1, [.ref a1, .ref a2, .ref a3, .int n, .ref a4, .int k, .ref a5])), (a1, .inl (cJ, 500, .inr (.inl ab))), (a2, .inl (cJ, 500, .inr (.inl be))), (a3, .inl (cI, 500, .inl un))]) [0, 1, 2, 3] (by decide) rfl
          have hz : ((-1), (ab, be, un, n)) = f_X_round ab be un n a ru q := by unfold f_X_round; rw [if_neg c_1, if_neg c_2, if_neg c_3, if_pos c_4]
          exact W.iret (v := (-1)) hx hb hr (fun t ht hW => ⟨⟨(-1), (ab, be, un, n), rfl, hz, wb_of ht hW hP9 hK hD9⟩, hS.F ht⟩) hS.2.2 d_X_round_36
        · skip
          rw [lg_cmp_lt] at c_4
          refine lv_lload_n hx hb d_X_round_27 rfl (lv_at hl 3 rfl) ?_
          refine lv_ldc2 (v := 1000000000) hx hb hown (hg _ wg_92) d_X_round_28 ?_
          refine W.lcmp hx hb d_X_round_31 ?_
          refine lv_if_le (tgt := 37) hx hb d_X_round_32 (by decide) (fun c_5 => ?_) (fun c_5 => ?_)
          · skip
            rw [lg_cmp_le] at c_5
            refine lv_aload_n hx hb d_X_round_37 rfl (lv_at hl 0 rfl) ?_
            refine va_get (D := (dC, dI)) (ci := 1) (v := .ref a1) (C := R_X) (T := F_X) (N := 7) hx hb hg in_X hown hK hP 0 rfl rfl 0 (by decide) (hg _ wg_46) (fun _ h9 => h9) rfl d_X_round_38 ?_
            refine lv_iload_n hx hb d_X_round_41 rfl (lv_at hl 1 rfl) ?_
            refine va_lald hx hb hK hP 1 0 rfl rfl (am_in c_1 hn) d_X_round_42 ?_
            refine lv_lload_n hx hb d_X_round_43 rfl (lv_at hl 3 rfl) ?_
            refine lv_lmul hx hb d_X_round_44 ?_
            refine lv_topl (fun v_6 ev_6 => ?_)
            refine lv_lstore (lv' := [(5, .long v_6), (0, .ref h), (1, .int a), (2, .int ru), (3, .long q)]) hx hb d_X_round_45 hl (by decide) rfl (fun ls hl => ?_)
            refine lv_lload hx hb d_X_round_47 (lv_at hl 0 rfl) ?_
            refine lv_aload_n hx hb d_X_round_49 rfl (lv_at hl 1 rfl) ?_
            refine va_get (D := (dC, dI)) (ci := 1) (v := .ref a2) (C := R_X) (T := F_X) (N := 7) hx hb hg in_X hown hK hP 0 rfl rfl 1 (by decide) (hg _ wg_47) (fun _ h9 => h9) rfl d_X_round_50 ?_
            refine lv_iload_n hx hb d_X_round_53 rfl (lv_at hl 2 rfl) ?_
            refine va_lald hx hb hK hP 2 0 rfl rfl (am_in c_1 hn) d_X_round_54 ?_
            refine W.callV (W.runS (As := [.long v_6, .long (be a.toNatClampNeg)]) (rest := []) ⟨hx, hb, hml, hown, hg⟩ (k_X_quotientDown l v_6 (be a.toNatClampNeg)) (q_S 2 hg wg_95 wg_93 wg_94 wg_13 rfl rfl (by decide +kernel) ⟨Nat.le_of_ble_eq_true rfl, Nat.le_of_ble_eq_true rfl⟩) ⟨nw_blind, fun _ _ _ => ⟨rfl, trivial⟩⟩ rfl rfl hl.1 rfl (lv_room (Nat.le_of_ble_eq_true rfl)) d_X_round_55 ⟨Nat.le_of_ble_eq_true rfl, Nat.le_of_ble_eq_true rfl⟩) ?_
            refine W.eq (g2 := F0 m 58 ls (.long (f_X_quotientDown v_6 (be a.toNatClampNeg)) :: [])) rfl ?_
            refine lv_topl (fun v_7 ev_7 => ?_)
            refine lv_lstore (lv' := [(7, .long v_7), (5, .long v_6), (0, .ref h), (1, .int a), (2, .int ru), (3, .long q)]) hx hb d_X_round_58 hl (by decide) rfl (fun ls hl => ?_)
            refine lv_lload hx hb d_X_round_60 (lv_at hl 1 rfl) ?_
            refine lv_aload_n hx hb d_X_round_62 rfl (lv_at hl 2 rfl) ?_
            refine va_get (D := (dC, dI)) (ci := 1) (v := .ref a2) (C := R_X) (T := F_X) (N := 7) hx hb hg in_X hown hK hP 0 rfl rfl 1 (by decide) (hg _ wg_47) (fun _ h9 => h9) rfl d_X_round_63 ?_
            refine lv_iload_n hx hb d_X_round_66 rfl (lv_at hl 3 rfl) ?_
            refine va_lald hx hb hK hP 2 0 rfl rfl (am_in c_1 hn) d_X_round_67 ?_
            refine W.callV (W.runS (As := [.long v_6, .long (be a.toNatClampNeg)]) (rest := []) ⟨hx, hb, hml, hown, hg⟩ (k_X_restOf l v_6 (be a.toNatClampNeg)) (q_S 2 hg wg_101 wg_99 wg_100 wg_13 rfl rfl (by decide +kernel) ⟨Nat.le_of_ble_eq_true rfl, Nat.le_of_ble_eq_true rfl⟩) ⟨nw_blind, fun _ _ _ => ⟨rfl, trivial⟩⟩ rfl rfl hl.1 rfl (lv_room (Nat.le_of_ble_eq_true rfl)) d_X_round_68 ⟨Nat.le_of_ble_eq_true rfl, Nat.le_of_ble_eq_true rfl⟩) ?_
            refine W.eq (g2 := F0 m 71 ls (.long (f_X_restOf v_6 (be a.toNatClampNeg)) :: [])) rfl ?_
            refine lv_topl (fun v_8 ev_8 => ?_)
            refine lv_lstore (lv' := [(9, .long v_8), (7, .long v_7), (5, .long v_6), (0, .ref h), (1, .int a), (2, .int ru), (3, .long q)]) hx hb d_X_round_71 hl (by decide) rfl (fun ls hl => ?_)
            refine lv_iload_n hx hb d_X_round_73 rfl (lv_at hl 5 rfl) ?_
            refine lv_lload hx hb d_X_round_74 (lv_at hl 1 rfl) ?_
            refine lv_lload hx hb d_X_round_76 (lv_at hl 0 rfl) ?_
            refine lv_aload_n hx hb d_X_round_78 rfl (lv_at hl 3 rfl) ?_
            refine va_get (D := (dC, dI)) (ci := 1) (v := .ref a2) (C := R_X) (T := F_X) (N := 7) hx hb hg in_X hown hK hP 0 rfl rfl 1 (by decide) (hg _ wg_47) (fun _ h9 => h9) rfl d_X_round_79 ?_
            refine lv_iload_n hx hb d_X_round_82 rfl (lv_at hl 4 rfl) ?_
            refine va_lald hx hb hK hP 2 0 rfl rfl (am_in c_1 hn) d_X_round_83 ?_
            refine W.callV (W.runS (As := [.int ru, .long v_7, .long v_8, .long (be a.toNatClampNeg)]) (rest := []) ⟨hx, hb, hml, hown, hg⟩ (k_X_goesUp l ru v_7 v_8 (be a.toNatClampNeg)) (q_S 4 hg wg_107 wg_105 wg_106 wg_13 rfl rfl (by decide +kernel) ⟨Nat.le_of_ble_eq_true rfl, Nat.le_of_ble_eq_true rfl⟩) ⟨nw_blind, fun _ _ _ => ⟨rfl, trivial⟩⟩ rfl rfl hl.1 rfl (lv_room (Nat.le_of_ble_eq_true rfl)) d_X_round_84 ⟨Nat.le_of_ble_eq_true rfl, Nat.le_of_ble_eq_true rfl⟩) ?_
            refine W.eq (g2 := F0 m 87 ls (.int (f_X_goesUp ru v_7 v_8 (be a.toNatClampNeg)) :: [])) rfl ?_
            refine lv_if_eq (tgt := 97) hx hb d_X_round_87 (by decide) (fun c_9 => ?_) (fun c_9 => ?_)
            · skip
              refine lv_lload hx hb d_X_round_97 (lv_at hl 1 rfl) ?_
              refine lv_lstore (lv' := [(11, .long v_7), (9, .long v_8), (7, .long v_7), (5, .long v_6), (0, .ref h), (1, .int a), (2, .int ru), (3, .long q)]) hx hb d_X_round_99 hl (by decide) rfl (fun ls hl => ?_)
              refine lv_aload_n hx hb d_X_round_101 rfl (lv_at hl 4 rfl) ?_
              refine lv_lload hx hb d_X_round_102 (lv_at hl 0 rfl) ?_
              refine lv_lload_n hx hb d_X_round_104 rfl (lv_at hl 7 rfl) ?_
              refine lv_aload_n hx hb d_X_round_105 rfl (lv_at hl 4 rfl) ?_
              refine va_get (D := (dC, dI)) (ci := 1) (v := .ref a3) (C := R_X) (T := F_X) (N := 7) hx hb hg in_X hown hK hP 0 rfl rfl 2 (by decide) (hg _ wg_48) (fun _ h9 => h9) rfl d_X_round_106 ?_
              refine lv_iload_n hx hb d_X_round_109 rfl (lv_at hl 5 rfl) ?_
              refine va_iald hx hb hK hP 3 1 rfl rfl (am_in c_1 hn) d_X_round_110 ?_
              have hPc := hP.sub (ws' := [(h, .inr (1, [.ref a1, .ref a2, .ref a3, .int n, .ref a4, .int k, .ref a5])), (a1, .inl (cJ, 500, .inr (.inl ab))), (a2, .inl (cJ, 500, .inr (.inl be))), (a3, .inl (cI, 500, .inl un))]) [0, 1, 2, 3] rfl
              have hDc := hD.sub (ws' := [(h, .inr (1, [.ref a1, .ref a2, .ref a3, .int n, .ref a4, .int k, .ref a5])), (a1, .inl (cJ, 500, .inr (.inl ab))), (a2, .inl (cJ, 500, .inr (.inl be))), (a3, .inl (cI, 500, .inl un))]) [0, 1, 2, 3] (by decide) rfl
              have hFc := va_free (wc := [(h, .inr (1, [.ref a1, .ref a2, .ref a3, .int n, .ref a4, .int k, .ref a5])), (a1, .inl (cJ, 500, .inr (.inl ab))), (a2, .inl (cJ, 500, .inr (.inl be))), (a3, .inl (cI, 500, .inl un))]) hD hS hA [0, 1, 2, 3] rfl
              refine va_calli (va_runV (As := [.long v_7, .long q, .int (un a.toNatClampNeg)]) (rest := []) ⟨hx, hb, hml, hown, hg⟩ (k_X_keep l dC dI cJ cI cT h a1 a2 a3 a4 a5 n k ab be un v_7 q (un a.toNatClampNeg) _ hn0) (q_V 3 hg wg_69 wg_67 wg_68 wg_1 wg_13 rfl rfl (by decide +kernel) ⟨Nat.le_of_ble_eq_true rfl, Nat.le_of_ble_eq_true rfl⟩) ⟨wx_blind, va_recv hK hPc (ci := 1) (q0 := 0) rfl rfl, wx_pre (as := .ref h :: [.long v_7, .long q, .int (un a.toNatClampNeg)]) hPc hK hDc⟩ rfl rfl hl.1 rfl (lv_room (Nat.le_of_ble_eq_true rfl)) d_X_round_111 ⟨Nat.le_of_ble_eq_true rfl, Nat.le_of_ble_eq_true rfl⟩) hS (fun q _ h => hFc q h) hFc (fun r_14 u t H1 locs ht hvm hw_15 hB hz1 hk1 hS => ?_)
              obtain ⟨ab_10, be_11, un_12, n_13⟩ := u
              obtain ⟨hP1, hK1, hD1⟩ := hB
              rw [ht] at hP1
              obtain ⟨hP, hD⟩ := va_join (wr := []) (w1 := [(h, .inr (1, [.ref a1, .ref a2, .ref a3, .int n_13, .ref a4, .int k, .ref a5])), (a1, .inl (cJ, 500, .inr (.inl ab_10))), (a2, .inl (cJ, 500, .inr (.inl be_11))), (a3, .inl (cI, 500, .inl un_12))]) hP hD [0, 1, 2, 3] [] rfl rfl (by decide) (by decide) hk1 hFc hP1 hD1
              generalize H1 = H at hP hS ⊢
              have hP : va_P (dC, dI) classes [(h, .inr (1, [.ref a1, .ref a2, .ref a3, .int n_13, .ref a4, .int k, .ref a5])), (a1, .inl (cJ, 500, .inr (.inl ab_10))), (a2, .inl (cJ, 500, .inr (.inl be_11))), (a3, .inl (cI, 500, .inl un_12))] H := hP
              have hD : va_D A [(h, .inr (1, [.ref a1, .ref a2, .ref a3, .int n_13, .ref a4, .int k, .ref a5])), (a1, .inl (cJ, 500, .inr (.inl ab_10))), (a2, .inl (cJ, 500, .inr (.inl be_11))), (a3, .inl (cI, 500, .inl un_12))] := hD
              subst ev_8
              subst ev_7
              subst ev_6
              have hP9 := hP.sub (ws' := [(h, .inr (1, [.ref a1, .ref a2, .ref a3, .int n_13, .ref a4, .int k, .ref a5])), (a1, .inl (cJ, 500, .inr (.inl ab_10))), (a2, .inl (cJ, 500, .inr (.inl be_11))), (a3, .inl (cI, 500, .inl un_12))]) [0, 1, 2, 3] rfl
              have hD9 := hD.sub (ws' := [(h, .inr (1, [.ref a1, .ref a2, .ref a3, .int n_13, .ref a4, .int k, .ref a5])), (a1, .inl (cJ, 500, .inr (.inl ab_10))), (a2, .inl (cJ, 500, .inr (.inl be_11))), (a3, .inl (cI, 500, .inl un_12))]) [0, 1, 2, 3] (by decide) rfl
              have hz : (r_14, (ab_10, be_11, un_12, n_13)) = f_X_round ab be un n a ru q := by unfold f_X_round; rw [if_neg c_1, if_neg c_2, if_neg c_3, if_neg c_4, if_pos c_5, if_pos c_9]; exact hw_15
              exact W.iret (v := r_14) hx hb hr (fun t ht hW => ⟨⟨r_14, (ab_10, be_11, un_12, n_13), rfl, hz, wb_of ht hW hP9 hK hD9⟩, hS.F ht⟩) hS.2.2 d_X_round_114
            · skip
              refine lv_lload hx hb d_X_round_90 (lv_at hl 1 rfl) ?_
              refine lv_lconst (v := 1) hx hb d_X_round_92 (by decide) ?_
              refine lv_ladd hx hb d_X_round_93 ?_
              refine lv_goto (tgt := 99) hx hb d_X_round_94 (by decide) ?_
              refine lv_topl (fun v_16 ev_16 => ?_)
              refine lv_lstore (lv' := [(11, .long v_16), (9, .long v_8), (7, .long v_7), (5, .long v_6), (0, .ref h), (1, .int a), (2, .int ru), (3, .long q)]) hx hb d_X_round_99 hl (by decide) rfl (fun ls hl => ?_)
              refine lv_aload_n hx hb d_X_round_101 rfl (lv_at hl 4 rfl) ?_
              refine lv_lload hx hb d_X_round_102 (lv_at hl 0 rfl) ?_
              refine lv_lload_n hx hb d_X_round_104 rfl (lv_at hl 7 rfl) ?_
              refine lv_aload_n hx hb d_X_round_105 rfl (lv_at hl 4 rfl) ?_
              refine va_get (D := (dC, dI)) (ci := 1) (v := .ref a3) (C := R_X) (T := F_X) (N := 7) hx hb hg in_X hown hK hP 0 rfl rfl 2 (by decide) (hg _ wg_48) (fun _ h9 => h9) rfl d_X_round_106 ?_
              refine lv_iload_n hx hb d_X_round_109 rfl (lv_at hl 5 rfl) ?_
              refine va_iald hx hb hK hP 3 1 rfl rfl (am_in c_1 hn) d_X_round_110 ?_
              have hPc := hP.sub (ws' := [(h, .inr (1, [.ref a1, .ref a2, .ref a3, .int n, .ref a4, .int k, .ref a5])), (a1, .inl (cJ, 500, .inr (.inl ab))), (a2, .inl (cJ, 500, .inr (.inl be))), (a3, .inl (cI, 500, .inl un))]) [0, 1, 2, 3] rfl
              have hDc := hD.sub (ws' := [(h, .inr (1, [.ref a1, .ref a2, .ref a3, .int n, .ref a4, .int k, .ref a5])), (a1, .inl (cJ, 500, .inr (.inl ab))), (a2, .inl (cJ, 500, .inr (.inl be))), (a3, .inl (cI, 500, .inl un))]) [0, 1, 2, 3] (by decide) rfl
              have hFc := va_free (wc := [(h, .inr (1, [.ref a1, .ref a2, .ref a3, .int n, .ref a4, .int k, .ref a5])), (a1, .inl (cJ, 500, .inr (.inl ab))), (a2, .inl (cJ, 500, .inr (.inl be))), (a3, .inl (cI, 500, .inl un))]) hD hS hA [0, 1, 2, 3] rfl
              refine va_calli (va_runV (As := [.long v_16, .long q, .int (un a.toNatClampNeg)]) (rest := []) ⟨hx, hb, hml, hown, hg⟩ (k_X_keep l dC dI cJ cI cT h a1 a2 a3 a4 a5 n k ab be un v_16 q (un a.toNatClampNeg) _ hn0) (q_V 3 hg wg_69 wg_67 wg_68 wg_1 wg_13 rfl rfl (by decide +kernel) ⟨Nat.le_of_ble_eq_true rfl, Nat.le_of_ble_eq_true rfl⟩) ⟨wx_blind, va_recv hK hPc (ci := 1) (q0 := 0) rfl rfl, wx_pre (as := .ref h :: [.long v_16, .long q, .int (un a.toNatClampNeg)]) hPc hK hDc⟩ rfl rfl hl.1 rfl (lv_room (Nat.le_of_ble_eq_true rfl)) d_X_round_111 ⟨Nat.le_of_ble_eq_true rfl, Nat.le_of_ble_eq_true rfl⟩) hS (fun q _ h => hFc q h) hFc (fun r_21 u t H1 locs ht hvm hw_22 hB hz1 hk1 hS => ?_)
              obtain ⟨ab_17, be_18, un_19, n_20⟩ := u
              obtain ⟨hP1, hK1, hD1⟩ := hB
              rw [ht] at hP1
              obtain ⟨hP, hD⟩ := va_join (wr := []) (w1 := [(h, .inr (1, [.ref a1, .ref a2, .ref a3, .int n_20, .ref a4, .int k, .ref a5])), (a1, .inl (cJ, 500, .inr (.inl ab_17))), (a2, .inl (cJ, 500, .inr (.inl be_18))), (a3, .inl (cI, 500, .inl un_19))]) hP hD [0, 1, 2, 3] [] rfl rfl (by decide) (by decide) hk1 hFc hP1 hD1
              generalize H1 = H at hP hS ⊢
              have hP : va_P (dC, dI) classes [(h, .inr (1, [.ref a1, .ref a2, .ref a3, .int n_20, .ref a4, .int k, .ref a5])), (a1, .inl (cJ, 500, .inr (.inl ab_17))), (a2, .inl (cJ, 500, .inr (.inl be_18))), (a3, .inl (cI, 500, .inl un_19))] H := hP
              have hD : va_D A [(h, .inr (1, [.ref a1, .ref a2, .ref a3, .int n_20, .ref a4, .int k, .ref a5])), (a1, .inl (cJ, 500, .inr (.inl ab_17))), (a2, .inl (cJ, 500, .inr (.inl be_18))), (a3, .inl (cI, 500, .inl un_19))] := hD
              subst ev_16
              subst ev_8
              subst ev_7
              subst ev_6
              have hP9 := hP.sub (ws' := [(h, .inr (1, [.ref a1, .ref a2, .ref a3, .int n_20, .ref a4, .int k, .ref a5])), (a1, .inl (cJ, 500, .inr (.inl ab_17))), (a2, .inl (cJ, 500, .inr (.inl be_18))), (a3, .inl (cI, 500, .inl un_19))]) [0, 1, 2, 3] rfl
              have hD9 := hD.sub (ws' := [(h, .inr (1, [.ref a1, .ref a2, .ref a3, .int n_20, .ref a4, .int k, .ref a5])), (a1, .inl (cJ, 500, .inr (.inl ab_17))), (a2, .inl (cJ, 500, .inr (.inl be_18))), (a3, .inl (cI, 500, .inl un_19))]) [0, 1, 2, 3] (by decide) rfl
              have hz : (r_21, (ab_17, be_18, un_19, n_20)) = f_X_round ab be un n a ru q := by unfold f_X_round; rw [if_neg c_1, if_neg c_2, if_neg c_3, if_neg c_4, if_pos c_5, if_neg c_9]; exact hw_22
              exact W.iret (v := r_21) hx hb hr (fun t ht hW => ⟨⟨r_21, (ab_17, be_18, un_19, n_20), rfl, hz, wb_of ht hW hP9 hK hD9⟩, hS.F ht⟩) hS.2.2 d_X_round_114
          · skip
            rw [lg_cmp_le] at c_5
            refine lv_iconst (v := (-1)) hx hb d_X_round_35 (by decide) ?_
            have hP9 := hP.sub (ws' := [(h, .inr (1, [.ref a1, .ref a2, .ref a3, .int n, .ref a4, .int k, .ref a5])), (a1, .inl (cJ, 500, .inr (.inl ab))), (a2, .inl (cJ, 500, .inr (.inl be))), (a3, .inl (cI, 500, .inl un))]) [0, 1, 2, 3] rfl
            have hD9 := hD.sub (ws' := [(h, .inr (1, [.ref a1, .ref a2, .ref a3, .int n, .ref a4, .int k, .ref a5])), (a1, .inl (cJ, 500, .inr (.inl ab))), (a2, .inl (cJ, 500, .inr (.inl be))), (a3, .inl (cI, 500, .inl un))]) [0, 1, 2, 3] (by decide) rfl
            have hz : ((-1), (ab, be, un, n)) = f_X_round ab be un n a ru q := by unfold f_X_round; rw [if_neg c_1, if_neg c_2, if_neg c_3, if_neg c_4, if_neg c_5]
            exact W.iret (v := (-1)) hx hb hr (fun t ht hW => ⟨⟨(-1), (ab, be, un, n), rfl, hz, wb_of ht hW hP9 hK hD9⟩, hS.F ht⟩) hS.2.2 d_X_round_36
  · skip
    refine lv_bipush (v := (-3)) hx hb d_X_round_8 (by decide) ?_
    have hP9 := hP.sub (ws' := [(h, .inr (1, [.ref a1, .ref a2, .ref a3, .int n, .ref a4, .int k, .ref a5])), (a1, .inl (cJ, 500, .inr (.inl ab))), (a2, .inl (cJ, 500, .inr (.inl be))), (a3, .inl (cI, 500, .inl un))]) [0, 1, 2, 3] rfl
    have hD9 := hD.sub (ws' := [(h, .inr (1, [.ref a1, .ref a2, .ref a3, .int n, .ref a4, .int k, .ref a5])), (a1, .inl (cJ, 500, .inr (.inl ab))), (a2, .inl (cJ, 500, .inr (.inl be))), (a3, .inl (cI, 500, .inl un))]) [0, 1, 2, 3] (by decide) rfl
    have hz : ((-3), (ab, be, un, n)) = f_X_round ab be un n a ru q := by unfold f_X_round; rw [if_pos c_1]
    exact W.iret (v := (-3)) hx hb hr (fun t ht hW => ⟨⟨(-3), (ab, be, un, n), rfl, hz, wb_of ht hW hP9 hK hD9⟩, hS.F ht⟩) hS.2.2 d_X_round_10
