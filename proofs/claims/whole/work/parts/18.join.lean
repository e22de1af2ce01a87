theorem in_pred2 {n : Int32} (h0 : 0 ≤ n.toInt) (h1 : n.toInt ≤ (16 : Nat)) (h2 : ¬ n = 0) : vp_in (n - 1) 16 := by
  rw [vp_in_iff]
  have h3 : n.toInt ≠ 0 := fun e => h2 (Int32.toInt_inj.mp e)
  have e1 : (n - 1).toInt = n.toInt - 1 := Jvm.Kit.i32_sub (by have : (1 : Int32).toInt = 1 := rfl; omega) (by have : (1 : Int32).toInt = 1 := rfl; omega)
  omega
theorem fn_le (xs : Nat → Int64) (d so : Int64) : ∀ (n j : Nat), j ≤ fn_L xs d so n j ∧ fn_L xs d so n j ≤ j + n
  | 0, j => ⟨Nat.le_refl _, Nat.le_refl _⟩
  | n + 1, j => by
    unfold fn_L
    by_cases h : so ≤ xs j * d
    · rw [if_pos h]; omega
    · rw [if_neg h]
      have := fn_le xs d so n (j + 1)
      omega
theorem cl_le {tc : Int32} (h0 : 0 ≤ tc.toInt) : (tc.toNatClampNeg : Int) = tc.toInt := by
  obtain ⟨q, hq, e⟩ := nI_of (x := tc) (fun hh => by rw [Int32.lt_iff_toInt_lt] at hh; have e0 : (0 : Int32).toInt = 0 := rfl; omega)
  rw [e, nI_clamp hq, nI_toInt hq]
theorem fnb_in {xs : Nat → Int64} {tb : Int64} {tc : Int32} {x d : Int64} (h0 : 0 ≤ tc.toInt) (h1 : tc.toInt ≤ (16 : Nat)) : 0 ≤ (f_T_firstNotBefore xs tb tc x d).toInt ∧ (f_T_firstNotBefore xs tb tc x d).toInt ≤ (16 : Nat) := by
  have h2 := fn_le xs d (x * tb) tc.toNatClampNeg 0
  have h3 := cl_le h0
  unfold f_T_firstNotBefore
  rw [nI_toInt (by omega)]
  omega
theorem in_nn {a n : Int32} {N : Nat} (h0 : 0 ≤ a.toInt) (h1 : a < n) (hn : n.toInt ≤ N) : vp_in a N := by
  rw [vp_in_iff]
  rw [Int32.lt_iff_toInt_lt] at h1
  omega
def f_X_join (ab be : Nat → Int64) (un : Nat → Int32) (n : Int32) (tb : Int64) (tc : Int32) (xs ys : Nat → Int64) (a : Int32) : Int32 × (Nat → Int64) × (Nat → Int64) × (Nat → Int32) × Int32 := if (f_X_isAmount a n) = 0 then ((-3), (ab, be, un, n)) else if tc = 0 then ((-1), (ab, be, un, n)) else if (f_T_firstNotBefore xs tb tc (ab a.toNatClampNeg) (be a.toNatClampNeg)) = 0 then (f_X_keep ab be un n (ys (0 : Int32).toNatClampNeg) tb 0) else if (f_T_firstNotBefore xs tb tc (ab a.toNatClampNeg) (be a.toNatClampNeg)) < tc then (f_X_keepBetween ab be un n tb xs ys (f_T_firstNotBefore xs tb tc (ab a.toNatClampNeg) (be a.toNatClampNeg)) a) else (f_X_keep ab be un n (ys (tc - 1).toNatClampNeg) tb 0)
set_option maxHeartbeats 4000000 in
set_option maxRecDepth 100000 in
theorem k_X_join (l : Launch) (dC : Nat → ClassId) (dI : Nat → Nat → Nat) (cJ cI cT : ClassId) (h a1 a2 a3 a4 a5 : Nat) (n k : Int32) (ab be : Nat → Int64) (un : Nat → Int32) (tf : Nat → Option Nat) (th tx ty : Nat) (tb : Int64) (tc : Int32) (xs ys : Nat → Int64) (tb_ a : Int32) (sz : Nat) (hn0 : 0 ≤ n.toInt) (hn : n.toInt ≤ (500 : Nat)) (hf : f_X_tableAt tf tb_ = some th) (hc0 : 0 ≤ tc.toInt) (hc : tc.toInt ≤ (16 : Nat)) : Met l y_X_join w_X_join ({ frames := 4, cells := 0, slots := 0, locals := 115 }) (va_Pc [.ref h, .int tb_, .int a] (fun U => wx dC dI cJ cI cT sz [(h, .inr (1, [.ref a1, .ref a2, .ref a3, .int n, .ref a4, .int k, .ref a5])), (a1, .inl (cJ, 500, .inr (.inl ab))), (a2, .inl (cJ, 500, .inr (.inl be))), (a3, .inl (cI, 500, .inl un)), (a5, .inl (cT, 4, .inr (.inr (.inr (.inr tf))))), (th, .inr (0, [.ref tx, .ref ty, .long tb, .int tc])), (tx, .inl (cJ, 16, .inr (.inl xs))), (ty, .inl (cJ, 16, .inr (.inl ys)))] U ∧ nwd U)) (va_Qi (fun (r9 : Int32) (u9 : (Nat → Int64) × (Nat → Int64) × (Nat → Int32) × Int32) => (r9, u9) = f_X_join ab be un n tb tc xs ys a) (fun u => wb dC dI cJ cI cT (va_A [(h, .inr (1, [.ref a1, .ref a2, .ref a3, .int n, .ref a4, .int k, .ref a5])), (a1, .inl (cJ, 500, .inr (.inl ab))), (a2, .inl (cJ, 500, .inr (.inl be))), (a3, .inl (cI, 500, .inl un)), (a5, .inl (cT, 4, .inr (.inr (.inr (.inr tf))))), (th, .inr (0, [.ref tx, .ref ty, .long tb, .int tc])), (tx, .inl (cJ, 16, .inr (.inl xs))), (ty, .inl (cJ, 16, .inr (.inl ys)))] sz) [(h, .inr (1, [.ref a1, .ref a2, .ref a3, .int u.2.2.2, .ref a4, .int k, .ref a5])), (a1, .inl (cJ, 500, .inr (.inl u.1))), (a2, .inl (cJ, 500, .inr (.inl u.2.1))), (a3, .inl (cI, 500, .inl u.2.2.1)), (a5, .inl (cT, 4, .inr (.inr (.inr (.inr tf))))), (th, .inr (0, [.ref tx, .ref ty, .long tb, .int tc])), (tx, .inl (cJ, 16, .inr (.inl xs))), (ty, .inl (cJ, 16, .inr (.inl ys)))]) (va_A [(h, .inr (1, [.ref a1, .ref a2, .ref a3, .int n, .ref a4, .int k, .ref a5])), (a1, .inl (cJ, 500, .inr (.inl ab))), (a2, .inl (cJ, 500, .inr (.inl be))), (a3, .inl (cI, 500, .inl un)), (a5, .inl (cT, 4, .inr (.inr (.inr (.inr tf))))), (th, .inr (0, [.ref tx, .ref ty, .long tb, .int tc])), (tx, .inl (cJ, 16, .inr (.inl xs))), (ty, .inl (cJ, 16, .inr (.inl ys)))] sz)) 0 0 (va_A [(h, .inr (1, [.ref a1, .ref a2, .ref a3, .int n, .ref a4, .int k, .ref a5])), (a1, .inl (cJ, 500, .inr (.inl ab))), (a2, .inl (cJ, 500, .inr (.inl be))), (a3, .inl (cI, 500, .inl un)), (a5, .inl (cT, 4, .inr (.inr (.inr (.inr tf))))), (th, .inr (0, [.ref tx, .ref ty, .long tb, .int tc])), (tx, .inl (cJ, 16, .inr (.inl xs))), (ty, .inl (cJ, 16, .inr (.inl ys)))] sz) := by
  refine Met.ofW (cc := c_X_join) (maxL := 5) (ret := (Option.some Jvm.ClassFile.FieldType.int)) (by decide) rfl ?_
  intro p e s m args below meth c s₁ B hml hv
  obtain ⟨rfl, ⟨hsz, hP, hK, hD0⟩, hN⟩ := hv
  have hx := B.exec
  have hb := B.bytes
  have hr := B.returns
  have hts := atoms_spec (ws := w_X_join) B.pre
  have hg : ∀ w ∈ WG, w.before _ s = true := fun w h => hts w (List.mem_cons_of_mem _ h)
  have hown : s.vm.findClass R_X = some m.cls := findClass_of_methodNamed B.named
  have hlocks := B.notSynchronized
  have hl := lv_entry ([.ref h, .int tb_, .int a]) (n := 5) (Nat.le_of_ble_eq_true rfl)
  rw [lg_entry_eq]
  generalize (lg_sl ([.ref h, .int tb_, .int a]) ++ List.replicate (5 - (lg_sl ([.ref h, .int tb_, .int a])).length) Slot.unset).toArray = ls at hl ⊢
  have hl : lv_has ls 5 [(0, .ref h), (1, .int tb_), (2, .int a)] := hl
  subst hsz
  have hD := hD0.self (sz := s.heap.size)
  generalize hAe : va_A [(h, .inr (1, [.ref a1, .ref a2, .ref a3, .int n, .ref a4, .int k, .ref a5])), (a1, .inl (cJ, 500, .inr (.inl ab))), (a2, .inl (cJ, 500, .inr (.inl be))), (a3, .inl (cI, 500, .inl un)), (a5, .inl (cT, 4, .inr (.inr (.inr (.inr tf))))), (th, .inr (0, [.ref tx, .ref ty, .long tb, .int tc])), (tx, .inl (cJ, 16, .inr (.inl xs))), (ty, .inl (cJ, 16, .inr (.inl ys)))] s.heap.size = A at hD ⊢
  have hA : ∀ q : Nat, s.heap.size ≤ q → A q := fun q h => by rw [← hAe]; exact Or.inr h
  have hS : va_S A s.heap s.heap [] := va_S.rf
  have hP : va_P (dC, dI) classes [(h, .inr (1, [.ref a1, .ref a2, .ref a3, .int n, .ref a4, .int k, .ref a5])), (a1, .inl (cJ, 500, .inr (.inl ab))), (a2, .inl (cJ, 500, .inr (.inl be))), (a3, .inl (cI, 500, .inl un)), (a5, .inl (cT, 4, .inr (.inr (.inr (.inr tf))))), (th, .inr (0, [.ref tx, .ref ty, .long tb, .int tc])), (tx, .inl (cJ, 16, .inr (.inl xs))), (ty, .inl (cJ, 16, .inr (.inl ys)))] s.heap := hP
  have hD : va_D A [(h, .inr (1, [.ref a1, .ref a2, .ref a3, .int n, .ref a4, .int k, .ref a5])), (a1, .inl (cJ, 500, .inr (.inl ab))), (a2, .inl (cJ, 500, .inr (.inl be))), (a3, .inl (cI, 500, .inl un)), (a5, .inl (cT, 4, .inr (.inr (.inr (.inr tf))))), (th, .inr (0, [.ref tx, .ref ty, .long tb, .int tc])), (tx, .inl (cJ, 16, .inr (.inl xs))), (ty, .inl (cJ, 16, .inr (.inl ys)))] := hD
  skip
  refine lv_aload_n hx hb d_X_join_0 rfl (lv_at hl 0 rfl) ?_
  refine lv_iload_n hx hb d_X_join_1 rfl (lv_at hl 1 rfl) ?_
  have hPc := hP.sub (ws' := [(h, .inr (1, [.ref a1, .ref a2, .ref a3, .int n, .ref a4, .int k, .ref a5])), (a5, .inl (cT, 4, .inr (.inr (.inr (.inr tf)))))]) [0, 4] rfl
  refine W.callV (W.runV (As := [.int tb_]) (rest := []) ⟨hx, hb, hml, hown, hg⟩ (k_X_tableAt l dC dI cJ cI cT h a1 a2 a3 a4 a5 n k tf tb_) (q_V 1 hg wg_122 wg_120 wg_121 wg_2 wg_13 rfl rfl (by decide +kernel) ⟨Nat.le_of_ble_eq_true rfl, Nat.le_of_ble_eq_true rfl⟩) ⟨wd_blind, va_recv hK hPc (ci := 1) (q0 := 0) rfl rfl, wd_pre (as := .ref h :: [.int tb_]) hPc hK⟩ rfl rfl hl.1 rfl (lv_room (Nat.le_of_ble_eq_true rfl)) d_X_join_2 ⟨Nat.le_of_ble_eq_true rfl, Nat.le_of_ble_eq_true rfl⟩) ?_
  refine W.eq (g2 := F0 m 5 ls (.ref th :: [])) (by rw [hf] <;> rfl) ?_
  refine lv_astore_n (lv' := [(3, .ref th), (0, .ref h), (1, .int tb_), (2, .int a)]) hx hb d_X_join_5 rfl hl (by decide) rfl (fun ls hl => ?_)
  refine lv_aload_n hx hb d_X_join_6 rfl (lv_at hl 0 rfl) ?_
  refine lv_ifnull hx hb d_X_join_7 ?_
  refine lv_aload_n hx hb d_X_join_10 rfl (lv_at hl 1 rfl) ?_
  refine lv_iload_n hx hb d_X_join_11 rfl (lv_at hl 3 rfl) ?_
  have hPc := hP.sub (ws' := [(h, .inr (1, [.ref a1, .ref a2, .ref a3, .int n, .ref a4, .int k, .ref a5]))]) [0] rfl
  refine W.callV (W.runV (As := [.int a]) (rest := []) ⟨hx, hb, hml, hown, hg⟩ (k_X_isAmount l dC dI cJ cI cT h a1 a2 a3 a4 a5 n k a) (q_V 1 hg wg_66 wg_64 wg_65 wg_0 wg_13 rfl rfl (by decide +kernel) ⟨Nat.le_of_ble_eq_true rfl, Nat.le_of_ble_eq_true rfl⟩) ⟨wd_blind, va_recv hK hPc (ci := 1) (q0 := 0) rfl rfl, wd_pre (as := .ref h :: [.int a]) hPc hK⟩ rfl rfl hl.1 rfl (lv_room (Nat.le_of_ble_eq_true rfl)) d_X_join_12 ⟨Nat.le_of_ble_eq_true rfl, Nat.le_of_ble_eq_true rfl⟩) ?_
  refine W.eq (g2 := F0 m 15 ls (.int (f_X_isAmount a n) :: [])) rfl ?_
  refine lv_if_ne (tgt := 21) hx hb d_X_join_15 (by decide) (fun c_1 => ?_) (fun c_1 => ?_)
  · skip
    refine lv_aload_n hx hb d_X_join_21 rfl (lv_at hl 0 rfl) ?_
    refine va_getN (D := (dC, dI)) (ci := 0) (v := .int tc) (C := R_T) (T := F_T) (N := 4) hx hb hg in_T hown hK hP 5 rfl rfl 3 (by decide) (va_Nw.use rfl (hN _ nw_4)) (fun _ h9 => h9) rfl d_X_join_22 ?_
    refine lv_if_ne (tgt := 30) hx hb d_X_join_25 (by decide) (fun c_2 => ?_) (fun c_2 => ?_)
    · skip
      refine lv_aload_n hx hb d_X_join_30 rfl (lv_at hl 0 rfl) ?_
      refine lv_aload_n hx hb d_X_join_31 rfl (lv_at hl 1 rfl) ?_
      refine va_get (D := (dC, dI)) (ci := 1) (v := .ref a1) (C := R_X) (T := F_X) (N := 7) hx hb hg in_X hown hK hP 0 rfl rfl 0 (by decide) (hg _ wg_46) (fun _ h9 => h9) rfl d_X_join_32 ?_
      refine lv_iload_n hx hb d_X_join_35 rfl (lv_at hl 3 rfl) ?_
      refine va_lald hx hb hK hP 1 0 rfl rfl (am_in c_1 hn) d_X_join_36 ?_
      refine lv_aload_n hx hb d_X_join_37 rfl (lv_at hl 1 rfl) ?_
      refine va_get (D := (dC, dI)) (ci := 1) (v := .ref a2) (C := R_X) (T := F_X) (N := 7) hx hb hg in_X hown hK hP 0 rfl rfl 1 (by decide) (hg _ wg_47) (fun _ h9 => h9) rfl d_X_join_38 ?_
      refine lv_iload_n hx hb d_X_join_41 rfl (lv_at hl 3 rfl) ?_
      refine va_lald hx hb hK hP 2 0 rfl rfl (am_in c_1 hn) d_X_join_42 ?_
      have hPc := hP.sub (ws' := [(th, .inr (0, [.ref tx, .ref ty, .long tb, .int tc])), (tx, .inl (cJ, 16, .inr (.inl xs)))]) [5, 6] rfl
      refine W.callV (va_Run.run (va_runVN (As := [.long (ab a.toNatClampNeg), .long (be a.toNatClampNeg)]) (rest := []) ⟨hx, hb, hml, hown, hg⟩ (k_T_firstNotBefore l dC dI cJ cI cT th tx ty tb tc xs (ab a.toNatClampNeg) (be a.toNatClampNeg) hc0 hc) ⟨q_N 2 hg wg_138 (hN _ nw_7) wg_14 rfl rfl (by decide +kernel) ⟨Nat.le_of_ble_eq_true rfl, Nat.le_of_ble_eq_true rfl⟩, hg _ wg_137, hg _ wg_5⟩ ⟨wd_blind, va_recv hK hPc (ci := 0) (q0 := 0) rfl rfl, wd_pre (as := .ref th :: [.long (ab a.toNatClampNeg), .long (be a.toNatClampNeg)]) hPc hK⟩ rfl rfl hl.1 rfl (lv_room (Nat.le_of_ble_eq_true rfl)) d_X_join_43 ⟨Nat.le_of_ble_eq_true rfl, Nat.le_of_ble_eq_true rfl⟩)) ?_
      refine W.eq (g2 := F0 m 46 ls (.int (f_T_firstNotBefore xs tb tc (ab a.toNatClampNeg) (be a.toNatClampNeg)) :: [])) rfl ?_
      refine lv_topi (fun v_3 ev_3 => ?_)
      refine lv_istore (lv' := [(4, .int v_3), (3, .ref th), (0, .ref h), (1, .int tb_), (2, .int a)]) hx hb d_X_join_46 hl (by decide) rfl (fun ls hl => ?_)
      refine lv_iload hx hb d_X_join_48 (lv_at hl 0 rfl) ?_
      refine lv_if_ne (tgt := 69) hx hb d_X_join_50 (by decide) (fun c_4 => ?_) (fun c_4 => ?_)
      · skip
        refine lv_iload hx hb d_X_join_69 (lv_at hl 0 rfl) ?_
        refine lv_aload_n hx hb d_X_join_71 rfl (lv_at hl 1 rfl) ?_
        refine va_getN (D := (dC, dI)) (ci := 0) (v := .int tc) (C := R_T) (T := F_T) (N := 4) hx hb hg in_T hown hK hP 5 rfl rfl 3 (by decide) (va_Nw.use rfl (hN _ nw_4)) (fun _ h9 => h9) rfl d_X_join_72 ?_
        refine lv_icmp_lt (tgt := 99) hx hb d_X_join_75 (by decide) (fun c_5 => ?_) (fun c_5 => ?_)
        · skip
          refine lv_aload_n hx hb d_X_join_99 rfl (lv_at hl 2 rfl) ?_
          refine lv_aload_n hx hb d_X_join_100 rfl (lv_at hl 1 rfl) ?_
          refine lv_iload hx hb d_X_join_101 (lv_at hl 0 rfl) ?_
          refine lv_iload_n hx hb d_X_join_103 rfl (lv_at hl 4 rfl) ?_
          have hv9 : 0 ≤ v_3.toInt ∧ v_3.toInt ≤ (16 : Nat) := by rw [ev_3]; exact fnb_in hc0 hc
          have hPc := hP.sub (ws' := [(h, .inr (1, [.ref a1, .ref a2, .ref a3, .int n, .ref a4, .int k, .ref a5])), (a1, .inl (cJ, 500, .inr (.inl ab))), (a2, .inl (cJ, 500, .inr (.inl be))), (a3, .inl (cI, 500, .inl un)), (th, .inr (0, [.ref tx, .ref ty, .long tb, .int tc])), (tx, .inl (cJ, 16, .inr (.inl xs))), (ty, .inl (cJ, 16, .inr (.inl ys)))]) [0, 1, 2, 3, 5, 6, 7] rfl
          have hDc := hD.sub (ws' := [(h, .inr (1, [.ref a1, .ref a2, .ref a3, .int n, .ref a4, .int k, .ref a5])), (a1, .inl (cJ, 500, .inr (.inl ab))), (a2, .inl (cJ, 500, .inr (.inl be))), (a3, .inl (cI, 500, .inl un)), (th, .inr (0, [.ref tx, .ref ty, .long tb, .int tc])), (tx, .inl (cJ, 16, .inr (.inl xs))), (ty, .inl (cJ, 16, .inr (.inl ys)))]) [0, 1, 2, 3, 5, 6, 7] (by decide) rfl
          have hFc := va_free (wc := [(h, .inr (1, [.ref a1, .ref a2, .ref a3, .int n, .ref a4, .int k, .ref a5])), (a1, .inl (cJ, 500, .inr (.inl ab))), (a2, .inl (cJ, 500, .inr (.inl be))), (a3, .inl (cI, 500, .inl un)), (th, .inr (0, [.ref tx, .ref ty, .long tb, .int tc])), (tx, .inl (cJ, 16, .inr (.inl xs))), (ty, .inl (cJ, 16, .inr (.inl ys)))]) hD hS hA [0, 1, 2, 3, 5, 6, 7] rfl
          refine va_calli (va_runV (As := [.ref th, .int v_3, .int a]) (rest := []) ⟨hx, hb, hml, hown, hg⟩ (k_X_keepBetween l dC dI cJ cI cT h a1 a2 a3 a4 a5 n k ab be un th tx ty tb tc xs ys v_3 a _ hn0 (am_in c_1 hn) (in_nn hv9.1 c_5 hc) (in_pred2 hv9.1 hv9.2 c_4)) (q_V 3 hg wg_141 wg_139 wg_140 wg_6 wg_13 rfl rfl (by decide +kernel) ⟨Nat.le_of_ble_eq_true rfl, Nat.le_of_ble_eq_true rfl⟩) ⟨and_blind wx_blind nwd_blind, va_recv hK hPc (ci := 1) (q0 := 0) rfl rfl, and_pre (wx_pre (as := .ref h :: [.ref th, .int v_3, .int a]) hPc hK hDc) (nwd_pre hN)⟩ rfl rfl hl.1 rfl (lv_room (Nat.le_of_ble_eq_true rfl)) d_X_join_104 ⟨Nat.le_of_ble_eq_true rfl, Nat.le_of_ble_eq_true rfl⟩) hS (fun q _ h => hFc q h) hFc (fun r_10 u t H1 locs ht hvm hw_11 hB hz1 hk1 hS => ?_)
          obtain ⟨ab_6, be_7, un_8, n_9⟩ := u
          obtain ⟨hP1, hK1, hD1⟩ := hB
          rw [ht] at hP1
          obtain ⟨hP, hD⟩ := va_join (wr := [(a5, .inl (cT, 4, .inr (.inr (.inr (.inr tf)))))]) (w1 := [(h, .inr (1, [.ref a1, .ref a2, .ref a3, .int n_9, .ref a4, .int k, .ref a5])), (a1, .inl (cJ, 500, .inr (.inl ab_6))), (a2, .inl (cJ, 500, .inr (.inl be_7))), (a3, .inl (cI, 500, .inl un_8)), (th, .inr (0, [.ref tx, .ref ty, .long tb, .int tc])), (tx, .inl (cJ, 16, .inr (.inl xs))), (ty, .inl (cJ, 16, .inr (.inl ys)))]) hP hD [0, 1, 2, 3, 5, 6, 7] [4] rfl rfl (by decide) (by decide) hk1 hFc hP1 hD1
          generalize H1 = H at hP hS ⊢
          have hP : va_P (dC, dI) classes [(a5, .inl (cT, 4, .inr (.inr (.inr (.inr tf))))), (h, .inr (1, [.ref a1, .ref a2, .ref a3, .int n_9, .ref a4, .int k, .ref a5])), (a1, .inl (cJ, 500, .inr (.inl ab_6))), (a2, .inl (cJ, 500, .inr (.inl be_7))), (a3, .inl (cI, 500, .inl un_8)), (th, .inr (0, [.ref tx, .ref ty, .long tb, .int tc])), (tx, .inl (cJ, 16, .inr (.inl xs))), (ty, .inl (cJ, 16, .inr (.inl ys)))] H := hP
          have hD : va_D A [(a5, .inl (cT, 4, .inr (.inr (.inr (.inr tf))))), (h, .inr (1, [.ref a1, .ref a2, .ref a3, .int n_9, .ref a4, .int k, .ref a5])), (a1, .inl (cJ, 500, .inr (.inl ab_6))), (a2, .inl (cJ, 500, .inr (.inl be_7))), (a3, .inl (cI, 500, .inl un_8)), (th, .inr (0, [.ref tx, .ref ty, .long tb, .int tc])), (tx, .inl (cJ, 16, .inr (.inl xs))), (ty, .inl (cJ, 16, .inr (.inl ys)))] := hD
          subst ev_3
          have hP9 := hP.sub (ws' := [(h, .inr (1, [.ref a1, .ref a2, .ref a3, .int n_9, .ref a4, .int k, .ref a5])), (a1, .inl (cJ, 500, .inr (.inl ab_6))), (a2, .inl (cJ, 500, .inr (.inl be_7))), (a3, .inl (cI, 500, .inl un_8)), (a5, .inl (cT, 4, .inr (.inr (.inr (.inr tf))))), (th, .inr (0, [.ref tx, .ref ty, .long tb, .int tc])), (tx, .inl (cJ, 16, .inr (.inl xs))), (ty, .inl (cJ, 16, .inr (.inl ys)))]) [1, 2, 3, 4, 0, 5, 6, 7] rfl
          have hD9 := hD.sub (ws' := [(h, .inr (1, [.ref a1, .ref a2, .ref a3, .int n_9, .ref a4, .int k, .ref a5])), (a1, .inl (cJ, 500, .inr (.inl ab_6))), (a2, .inl (cJ, 500, .inr (.inl be_7))), (a3, .inl (cI, 500, .inl un_8)), (a5, .inl (cT, 4, .inr (.inr (.inr (.inr tf))))), (th, .inr (0, [.ref tx, .ref ty, .long tb, .int tc])), (tx, .inl (cJ, 16, .inr (.inl xs))), (ty, .inl (cJ, 16, .inr (.inl ys)))]) [1, 2, 3, 4, 0, 5, 6, 7] (by decide) rfl
          have hz : (r_10, (ab_6, be_7, un_8, n_9)) = f_X_join ab be un n tb tc xs ys a := by unfold f_X_join; rw [if_neg c_1, if_neg c_2, if_neg c_4, if_pos c_5]; exact hw_11
          exact W.iret (v := r_10) hx hb hr (fun t ht hW => ⟨⟨r_10, (ab_6, be_7, un_8, n_9), rfl, hz, wb_of ht hW hP9 hK hD9⟩, hS.F ht⟩) hS.2.2 d_X_join_107
        · skip
          refine lv_aload_n hx hb d_X_join_78 rfl (lv_at hl 2 rfl) ?_
          refine lv_aload_n hx hb d_X_join_79 rfl (lv_at hl 1 rfl) ?_
          refine va_getN (D := (dC, dI)) (ci := 0) (v := .ref ty) (C := R_T) (T := F_T) (N := 4) hx hb hg in_T hown hK hP 5 rfl rfl 1 (by decide) (va_Nw.use rfl (hN _ nw_2)) (fun _ h9 => h9) rfl d_X_join_80 ?_
          refine lv_aload_n hx hb d_X_join_83 rfl (lv_at hl 1 rfl) ?_
          refine va_getN (D := (dC, dI)) (ci := 0) (v := .int tc) (C := R_T) (T := F_T) (N := 4) hx hb hg in_T hown hK hP 5 rfl rfl 3 (by decide) (va_Nw.use rfl (hN _ nw_4)) (fun _ h9 => h9) rfl d_X_join_84 ?_
          refine lv_iconst (v := 1) hx hb d_X_join_87 (by decide) ?_
          refine lv_isub hx hb d_X_join_88 ?_
          refine lv_topi (fun i_12 ei_12 => ?_)
          refine va_lald hx hb hK hP 7 0 rfl rfl (by rw [ei_12]; exact in_pred2 hc0 hc c_2) d_X_join_89 ?_
          refine lv_aload_n hx hb d_X_join_90 rfl (lv_at hl 1 rfl) ?_
          refine va_getN (D := (dC, dI)) (ci := 0) (v := .long tb) (C := R_T) (T := F_T) (N := 4) hx hb hg in_T hown hK hP 5 rfl rfl 2 (by decide) (va_Nw.use rfl (hN _ nw_3)) (fun _ h9 => h9) rfl d_X_join_91 ?_
          refine lv_iconst (v := 0) hx hb d_X_join_94 (by decide) ?_
          have hPc := hP.sub (ws' := [(h, .inr (1, [.ref a1, .ref a2, .ref a3, .int n, .ref a4, .int k, .ref a5])), (a1, .inl (cJ, 500, .inr (.inl ab))), (a2, .inl (cJ, 500, .inr (.inl be))), (a3, .inl (cI, 500, .inl un))]) [0, 1, 2, 3] rfl
          have hDc := hD.sub (ws' := [(h, .inr (1, [.ref a1, .ref a2, .ref a3, .int n, .ref a4, .int k, .ref a5])), (a1, .inl (cJ, 500, .inr (.inl ab))), (a2, .inl (cJ, 500, .inr (.inl be))), (a3, .inl (cI, 500, .inl un))]) [0, 1, 2, 3] (by decide) rfl
          have hFc := va_free (wc := [(h, .inr (1, [.ref a1, .ref a2, .ref a3, .int n, .ref a4, .int k, .ref a5])), (a1, .inl (cJ, 500, .inr (.inl ab))), (a2, .inl (cJ, 500, .inr (.inl be))), (a3, .inl (cI, 500, .inl un))]) hD hS hA [0, 1, 2, 3] rfl
          refine va_calli (va_runV (As := [.long (ys i_12.toNatClampNeg), .long tb, .int 0]) (rest := []) ⟨hx, hb, hml, hown, hg⟩ (k_X_keep l dC dI cJ cI cT h a1 a2 a3 a4 a5 n k ab be un (ys i_12.toNatClampNeg) tb 0 _ hn0) (q_V 3 hg wg_69 wg_67 wg_68 wg_1 wg_13 rfl rfl (by decide +kernel) ⟨Nat.le_of_ble_eq_true rfl, Nat.le_of_ble_eq_true rfl⟩) ⟨wx_blind, va_recv hK hPc (ci := 1) (q0 := 0) rfl rfl, wx_pre (as := .ref h :: [.long (ys i_12.toNatClampNeg), .long tb, .int 0]) hPc hK hDc⟩ rfl rfl hl.1 rfl (lv_room (Nat.le_of_ble_eq_true rfl)) d_X_join_95 ⟨Nat.le_of_ble_eq_true rfl, Nat.le_of_ble_eq_true rfl⟩) hS (fun q _ h => hFc q h) hFc (fun r_17 u t H1 locs ht hvm hw_18 hB hz1 hk1 hS => ?_)
          obtain ⟨ab_13, be_14, un_15, n_16⟩ := u
          obtain ⟨hP1, hK1, hD1⟩ := hB
          rw [ht] at hP1
          obtain ⟨hP, hD⟩ := va_join (wr := [(a5, .inl (cT, 4, .inr (.inr (.inr (.inr tf))))), (th, .inr (0, [.ref tx, .ref ty, .long tb, .int tc])), (tx, .inl (cJ, 16, .inr (.inl xs))), (ty, .inl (cJ, 16, .inr (.inl ys)))]) (w1 := [(h, .inr (1, [.ref a1, .ref a2, .ref a3, .int n_16, .ref a4, .int k, .ref a5])), (a1, .inl (cJ, 500, .inr (.inl ab_13))), (a2, .inl (cJ, 500, .inr (.inl be_14))), (a3, .inl (cI, 500, .inl un_15))]) hP hD [0, 1, 2, 3] [4, 5, 6, 7] rfl rfl (by decide) (by decide) hk1 hFc hP1 hD1
          generalize H1 = H at hP hS ⊢
          have hP : va_P (dC, dI) classes [(a5, .inl (cT, 4, .inr (.inr (.inr (.inr tf))))), (th, .inr (0, [.ref tx, .ref ty, .long tb, .int tc])), (tx, .inl (cJ, 16, .inr (.inl xs))), (ty, .inl (cJ, 16, .inr (.inl ys))), (h, .inr (1, [.ref a1, .ref a2, .ref a3, .int n_16, .ref a4, .int k, .ref a5])), (a1, .inl (cJ, 500, .inr (.inl ab_13))), (a2, .inl (cJ, 500, .inr (.inl be_14))), (a3, .inl (cI, 500, .inl un_15))] H := hP
          have hD : va_D A [(a5, .inl (cT, 4, .inr (.inr (.inr (.inr tf))))), (th, .inr (0, [.ref tx, .ref ty, .long tb, .int tc])), (tx, .inl (cJ, 16, .inr (.inl xs))), (ty, .inl (cJ, 16, .inr (.inl ys))), (h, .inr (1, [.ref a1, .ref a2, .ref a3, .int n_16, .ref a4, .int k, .ref a5])), (a1, .inl (cJ, 500, .inr (.inl ab_13))), (a2, .inl (cJ, 500, .inr (.inl be_14))), (a3, .inl (cI, 500, .inl un_15))] := hD
          subst ei_12
          subst ev_3
          have hP9 := hP.sub (ws' := [(h, .inr (1, [.ref a1, .ref a2, .ref a3, .int n_16, .ref a4, .int k, .ref a5])), (a1, .inl (cJ, 500, .inr (.inl ab_13))), (a2, .inl (cJ, 500, .inr (.inl be_14))), (a3, .inl (cI, 500, .inl un_15)), (a5, .inl (cT, 4, .inr (.inr (.inr (.inr tf))))), (th, .inr (0, [.ref tx, .ref ty, .long tb, .int tc])), (tx, .inl (cJ, 16, .inr (.inl xs))), (ty, .inl (cJ, 16, .inr (.inl ys)))]) [4, 5, 6, 7, 0, 1, 2, 3] rfl
          have hD9 := hD.sub (ws' := [(h, .inr (1, [.ref a1, .ref a2, .ref a3, .int n_16, .ref a4, .int k, .ref a5])), (a1, .inl (cJ, 500, .inr (.inl ab_13))), (a2, .inl (cJ, 500, .inr (.inl be_14))), (a3, .inl (cI, 500, .inl un_15)), (a5, .inl (cT, 4, .inr (.inr (.inr (.inr tf))))), (th, .inr (0, [.ref tx, .ref ty, .long tb, .int tc])), (tx, .inl (cJ, 16, .inr (.inl xs))), (ty, .inl (cJ, 16, .inr (.inl ys)))]) [4, 5, 6, 7, 0, 1, 2, 3] (by decide) rfl
          have hz : (r_17, (ab_13, be_14, un_15, n_16)) = f_X_join ab be un n tb tc xs ys a := by unfold f_X_join; rw [if_neg c_1, if_neg c_2, if_neg c_4, if_neg c_5]; exact hw_18
          exact W.iret (v := r_17) hx hb hr (fun t ht hW => ⟨⟨r_17, (ab_13, be_14, un_15, n_16), rfl, hz, wb_of ht hW hP9 hK hD9⟩, hS.F ht⟩) hS.2.2 d_X_join_98
      · skip
        refine lv_aload_n hx hb d_X_join_53 rfl (lv_at hl 2 rfl) ?_
        refine lv_aload_n hx hb d_X_join_54 rfl (lv_at hl 1 rfl) ?_
        refine va_getN (D := (dC, dI)) (ci := 0) (v := .ref ty) (C := R_T) (T := F_T) (N := 4) hx hb hg in_T hown hK hP 5 rfl rfl 1 (by decide) (va_Nw.use rfl (hN _ nw_2)) (fun _ h9 => h9) rfl d_X_join_55 ?_
        refine lv_iconst (v := 0) hx hb d_X_join_58 (by decide) ?_
        refine va_lald hx hb hK hP 7 0 rfl rfl (by unfold vp_in; decide) d_X_join_59 ?_
        refine lv_aload_n hx hb d_X_join_60 rfl (lv_at hl 1 rfl) ?_
        refine va_getN (D := (dC, dI)) (ci := 0) (v := .long tb) (C := R_T) (T := F_T) (N := 4) hx hb hg in_T hown hK hP 5 rfl rfl 2 (by decide) (va_Nw.use rfl (hN _ nw_3)) (fun _ h9 => h9) rfl d_X_join_61 ?_
        refine lv_iconst (v := 0) hx hb d_X_join_64 (by decide) ?_
        have hPc := hP.sub (ws' := [(h, .inr (1, [.ref a1, .ref a2, .ref a3, .int n, .ref a4, .int k, .ref a5])), (a1, .inl (cJ, 500, .inr (.inl ab))), (a2, .inl (cJ, 500, .inr (.inl be))), (a3, .inl (cI, 500, .inl un))]) [0, 1, 2, 3] rfl
        have hDc := hD.sub (ws' := [(h, .inr (1, [.ref a1, .ref a2, .ref a3, .int n, .ref a4, .int k, .ref a5])), (a1, .inl (cJ, 500, .inr (.inl ab))), (a2, .inl (cJ, 500, .inr (.inl be))), (a3, .inl (cI, 500, .inl un))]) [0, 1, 2, 3] (by decide) rfl
        have hFc := va_free (wc := [(h, .inr (1, [.ref a1, .ref a2, .ref a3, .int n, .ref a4, .int k, .ref a5])), (a1, .inl (cJ, 500, .inr (.inl ab))), (a2, .inl (cJ, 500, .inr (.inl be))), (a3, .inl (cI, 500, .inl un))]) hD hS hA [0, 1, 2, 3] rfl
        refine va_calli (va_runV (As := [.long (ys (0 : Int32).toNatClampNeg), .long tb, .int 0]) (rest := []) ⟨hx, hb, hml, hown, hg⟩ (k_X_keep l dC dI cJ cI cT h a1 a2 a3 a4 a5 n k ab be un (ys (0 : Int32).toNatClampNeg) tb 0 _ hn0) (q_V 3 hg wg_69 wg_67 wg_68 wg_1 wg_13 rfl rfl (by decide +kernel) ⟨Nat.le_of_ble_eq_true rfl, Nat.le_of_ble_eq_true rfl⟩) ⟨wx_blind, va_recv hK hPc (ci := 1) (q0 := 0) rfl rfl, wx_pre (as := .ref h :: [.long (ys (0 : Int32).toNatClampNeg), .long tb, .int 0]) hPc hK hDc⟩ rfl rfl hl.1 rfl (lv_room (Nat.le_of_ble_eq_true rfl)) d_X_join_65 ⟨Nat.le_of_ble_eq_true rfl, Nat.le_of_ble_eq_true rfl⟩) hS (fun q _ h => hFc q h) hFc (fun r_23 u t H1 locs ht hvm hw_24 hB hz1 hk1 hS => ?_)
        obtain ⟨ab_19, be_20, un_21, n_22⟩ := u
        obtain ⟨hP1, hK1, hD1⟩ := hB
        rw [ht] at hP1
        obtain ⟨hP, hD⟩ := va_join (wr := [(a5, .inl (cT, 4, .inr (.inr (.inr (.inr tf))))), (th, .inr (0, [.ref tx, .ref ty, .long tb, .int tc])), (tx, .inl (cJ, 16, .inr (.inl xs))), (ty, .inl (cJ, 16, .inr (.inl ys)))]) (w1 := [(h, .inr (1, [.ref a1, .ref a2, .ref a3, .int n_22, .ref a4, .int k, .ref a5])), (a1, .inl (cJ, 500, .inr (.inl ab_19))), (a2, .inl (cJ, 500, .inr (.inl be_20))), (a3, .inl (cI, 500, .inl un_21))]) hP hD [0, 1, 2, 3] [4, 5, 6, 7] rfl rfl (by decide) (by decide) hk1 hFc hP1 hD1
        generalize H1 = H at hP hS ⊢
        have hP : va_P (dC, dI) classes [(a5, .inl (cT, 4, .inr (.inr (.inr (.inr tf))))), (th, .inr (0, [.ref tx, .ref ty, .long tb, .int tc])), (tx, .inl (cJ, 16, .inr (.inl xs))), (ty, .inl (cJ, 16, .inr (.inl ys))), (h, .inr (1, [.ref a1, .ref a2, .ref a3, .int n_22, .ref a4, .int k, .ref a5])), (a1, .inl (cJ, 500, .inr (.inl ab_19))), (a2, .inl (cJ, 500, .inr (.inl be_20))), (a3, .inl (cI, 500, .inl un_21))] H := hP
        have hD : va_D A [(a5, .inl (cT, 4, .inr (.inr (.inr (.inr tf))))), (th, .inr (0, [.ref tx, .ref ty, .long tb, .int tc])), (tx, .inl (cJ, 16, .inr (.inl xs))), (ty, .inl (cJ, 16, .inr (.inl ys))), (h, .inr (1, [.ref a1, .ref a2, .ref a3, .int n_22, .ref a4, .int k, .ref a5])), (a1, .inl (cJ, 500, .inr (.inl ab_19))), (a2, .inl (cJ, 500, .inr (.inl be_20))), (a3, .inl (cI, 500, .inl un_21))] := hD
        subst ev_3
        have hP9 := hP.sub (ws' := [(h, .inr (1, [.ref a1, .ref a2, .ref a3, .int n_22, .ref a4, .int k, .ref a5])), (a1, .inl (cJ, 500, .inr (.inl ab_19))), (a2, .inl (cJ, 500, .inr (.inl be_20))), (a3, .inl (cI, 500, .inl un_21)), (a5, .inl (cT, 4, .inr (.inr (.inr (.inr tf))))), (th, .inr (0, [.ref tx, .ref ty, .long tb, .int tc])), (tx, .inl (cJ, 16, .inr (.inl xs))), (ty, .inl (cJ, 16, .inr (.inl ys)))]) [4, 5, 6, 7, 0, 1, 2, 3] rfl
        have hD9 := hD.sub (ws' := [(h, .inr (1, [.ref a1, .ref a2, .ref a3, .int n_22, .ref a4, .int k, .ref a5])), (a1, .inl (cJ, 500, .inr (.inl ab_19))), (a2, .inl (cJ, 500, .inr (.inl be_20))), (a3, .inl (cI, 500, .inl un_21)), (a5, .inl (cT, 4, .inr (.inr (.inr (.inr tf))))), (th, .inr (0, [.ref tx, .ref ty, .long tb, .int tc])), (tx, .inl (cJ, 16, .inr (.inl xs))), (ty, .inl (cJ, 16, .inr (.inl ys)))]) [4, 5, 6, 7, 0, 1, 2, 3] (by decide) rfl
        have hz : (r_23, (ab_19, be_20, un_21, n_22)) = f_X_join ab be un n tb tc xs ys a := by unfold f_X_join; rw [if_neg c_1, if_neg c_2, if_pos c_4]; exact hw_24
        exact W.iret (v := r_23) hx hb hr (fun t ht hW => ⟨⟨r_23, (ab_19, be_20, un_21, n_22), rfl, hz, wb_of ht hW hP9 hK hD9⟩, hS.F ht⟩) hS.2.2 d_X_join_68
    · skip
      refine lv_iconst (v := (-1)) hx hb d_X_join_28 (by decide) ?_
      have hP9 := hP.sub (ws' := [(h, .inr (1, [.ref a1, .ref a2, .ref a3, .int n, .ref a4, .int k, .ref a5])), (a1, .inl (cJ, 500, .inr (.inl ab))), (a2, .inl (cJ, 500, .inr (.inl be))), (a3, .inl (cI, 500, .inl un)), (a5, .inl (cT, 4, .inr (.inr (.inr (.inr tf))))), (th, .inr (0, [.ref tx, .ref ty, .long tb, .int tc])), (tx, .inl (cJ, 16, .inr (.inl xs))), (ty, .inl (cJ, 16, .inr (.inl ys)))]) [0, 1, 2, 3, 4, 5, 6, 7] rfl
      have hD9 := hD.sub (ws' := [(h, .inr (1, [.ref a1, .ref a2, .ref a3, .int n, .ref a4, .int k, .ref a5])), (a1, .inl (cJ, 500, .inr (.inl ab))), (a2, .inl (cJ, 500, .inr (.inl be))), (a3, .inl (cI, 500, .inl un)), (a5, .inl (cT, 4, .inr (.inr (.inr (.inr tf))))), (th, .inr (0, [.ref tx, .ref ty, .long tb, .int tc])), (tx, .inl (cJ, 16, .inr (.inl xs))), (ty, .inl (cJ, 16, .inr (.inl ys)))]) [0, 1, 2, 3, 4, 5, 6, 7] (by decide) rfl
      have hz : ((-1), (ab, be, un, n)) = f_X_join ab be un n tb tc xs ys a := by unfold f_X_join; rw [if_neg c_1, if_pos c_2]
      exact W.iret (v := (-1)) hx hb hr (fun t ht hW => ⟨⟨(-1), (ab, be, un, n), rfl, hz, wb_of ht hW hP9 hK hD9⟩, hS.F ht⟩) hS.2.2 d_X_join_29
  · skip
    refine lv_bipush (v := (-3)) hx hb d_X_join_18 (by decide) ?_
    have hP9 := hP.sub (ws' := [(h, .inr (1, [.ref a1, .ref a2, .ref a3, .int n, .ref a4, .int k, .ref a5])), (a1, .inl (cJ, 500, .inr (.inl ab))), (a2, .inl (cJ, 500, .inr (.inl be))), (a3, .inl (cI, 500, .inl un)), (a5, .inl (cT, 4, .inr (.inr (.inr (.inr tf))))), (th, .inr (0, [.ref tx, .ref ty, .long tb, .int tc])), (tx, .inl (cJ, 16, .inr (.inl xs))), (ty, .inl (cJ, 16, .inr (.inl ys)))]) [0, 1, 2, 3, 4, 5, 6, 7] rfl
    have hD9 := hD.sub (ws' := [(h, .inr (1, [.ref a1, .ref a2, .ref a3, .int n, .ref a4, .int k, .ref a5])), (a1, .inl (cJ, 500, .inr (.inl ab))), (a2, .inl (cJ, 500, .inr (.inl be))), (a3, .inl (cI, 500, .inl un)), (a5, .inl (cT, 4, .inr (.inr (.inr (.inr tf))))), (th, .inr (0, [.ref tx, .ref ty, .long tb, .int tc])), (tx, .inl (cJ, 16, .inr (.inl xs))), (ty, .inl (cJ, 16, .inr (.inl ys)))]) [0, 1, 2, 3, 4, 5, 6, 7] (by decide) rfl
    have hz : ((-3), (ab, be, un, n)) = f_X_join ab be un n tb tc xs ys a := by unfold f_X_join; rw [if_pos c_1]
    exact W.iret (v := (-3)) hx hb hr (fun t ht hW => ⟨⟨(-3), (ab, be, un, n), rfl, hz, wb_of ht hW hP9 hK hD9⟩, hS.F ht⟩) hS.2.2 d_X_join_20
set_option maxHeartbeats 4000000 in
set_option maxRecDepth 100000 in
theorem k_X_join_out (l : Launch) (dC : Nat → ClassId) (dI : Nat → Nat → Nat) (cJ cI cT : ClassId) (h a1 a2 a3 a4 a5 : Nat) (n k : Int32) (tf : Nat → Option Nat) (tb_ a : Int32) (hf : f_X_tableAt tf tb_ = none) : Met l y_X_join w_X_join ({ frames := 1, cells := 0, slots := 0, locals := 21 }) (va_Pc [.ref h, .int tb_, .int a] (wd dC dI cJ cI cT [(h, .inr (1, [.ref a1, .ref a2, .ref a3, .int n, .ref a4, .int k, .ref a5])), (a5, .inl (cT, 4, .inr (.inr (.inr (.inr tf)))))])) (k2_QcV (.int ((-3 : Int32)))) 0 0 (fun _ => False) := by
  refine Met.ofW (cc := c_X_join) (maxL := 5) (ret := (Option.some Jvm.ClassFile.FieldType.int)) (by decide) rfl ?_
  intro p e s m args below meth c s₁ B hml hv
  obtain ⟨rfl, hP, hK⟩ := hv
  have hx := B.exec
  have hb := B.bytes
  have hr := B.returns
  have hts := atoms_spec (ws := w_X_join) B.pre
  have hg : ∀ w ∈ WG, w.before _ s = true := fun w h => hts w (List.mem_cons_of_mem _ h)
  have hown : s.vm.findClass R_X = some m.cls := findClass_of_methodNamed B.named
  have hlocks := B.notSynchronized
  have hl := lv_entry ([.ref h, .int tb_, .int a]) (n := 5) (Nat.le_of_ble_eq_true rfl)
  rw [lg_entry_eq]
  generalize (lg_sl ([.ref h, .int tb_, .int a]) ++ List.replicate (5 - (lg_sl ([.ref h, .int tb_, .int a])).length) Slot.unset).toArray = ls at hl ⊢
  have hl : lv_has ls 5 [(0, .ref h), (1, .int tb_), (2, .int a)] := hl
  have hP : va_P (dC, dI) classes [(h, .inr (1, [.ref a1, .ref a2, .ref a3, .int n, .ref a4, .int k, .ref a5])), (a5, .inl (cT, 4, .inr (.inr (.inr (.inr tf)))))] s.heap := hP
  refine lv_aload_n hx hb d_X_join_0 rfl (lv_at hl 0 rfl) ?_
  refine lv_iload_n hx hb d_X_join_1 rfl (lv_at hl 1 rfl) ?_
  have hPc := hP.sub (ws' := [(h, .inr (1, [.ref a1, .ref a2, .ref a3, .int n, .ref a4, .int k, .ref a5])), (a5, .inl (cT, 4, .inr (.inr (.inr (.inr tf)))))]) [0, 1] rfl
  refine W.callV (W.runV (As := [.int tb_]) (rest := []) ⟨hx, hb, hml, hown, hg⟩ (k_X_tableAt l dC dI cJ cI cT h a1 a2 a3 a4 a5 n k tf tb_) (q_V 1 hg wg_122 wg_120 wg_121 wg_2 wg_13 rfl rfl (by decide +kernel) ⟨Nat.le_of_ble_eq_true rfl, Nat.le_of_ble_eq_true rfl⟩) ⟨wd_blind, va_recv hK hPc (ci := 1) (q0 := 0) rfl rfl, wd_pre (as := .ref h :: [.int tb_]) hPc hK⟩ rfl rfl hl.1 rfl (lv_room (Nat.le_of_ble_eq_true rfl)) d_X_join_2 ⟨Nat.le_of_ble_eq_true rfl, Nat.le_of_ble_eq_true rfl⟩) ?_
  refine W.eq (g2 := F0 m 5 ls (.null :: [])) (by rw [hf] <;> rfl) ?_
  refine lv_astore_nN (lv' := [(3, .null), (0, .ref h), (1, .int tb_), (2, .int a)]) hx hb d_X_join_5 rfl hl (by decide) rfl (fun ls hl => ?_)
  refine lv_aload_nN hx hb d_X_join_6 rfl (lv_at hl 0 rfl) ?_
  refine lv_ifnullN (tgt := 18) hx hb d_X_join_7 (by decide) ?_
  refine lv_bipush (v := (-3)) hx hb d_X_join_18 (by decide) ?_
  exact W.iret hx hb hr (fun t ht _ => ⟨rfl, ht⟩) (fun _ h => by cases h) d_X_join_20
def f_X_told (ab be : Nat → Int64) (un : Nat → Int32) (n k tc a wh : Int32) : Int64 := if wh = 0 then if (f_X_isAmount a n) = 0 then (-9) else (ab a.toNatClampNeg) else if wh = 1 then if (f_X_isAmount a n) = 0 then (-9) else (be a.toNatClampNeg) else if wh = 2 then if (f_X_isAmount a n) = 0 then (-9) else ((un a.toNatClampNeg).toInt64) else if wh = 3 then n.toInt64 else if wh = 4 then k.toInt64 else if wh = 5 then tc.toInt64 else (-9)
set_option maxHeartbeats 4000000 in
set_option maxRecDepth 100000 in
theorem k_X_told (l : Launch) (dC : Nat → ClassId) (dI : Nat → Nat → Nat) (cJ cI cT : ClassId) (h a1 a2 a3 a4 a5 : Nat) (n k : Int32) (ab be : Nat → Int64) (un : Nat → Int32) (tf : Nat → Option Nat) (th tx ty : Nat) (tb : Int64) (tc a wh : Int32) (hn : n.toInt ≤ (500 : Nat)) (hf : f_X_tableAt tf a = some th) : Met l y_X_told w_X_told ({ frames := 1, cells := 0, slots := 0, locals := 21 }) (va_Pc [.ref h, .int a, .int wh] (fun U => wd dC dI cJ cI cT [(h, .inr (1, [.ref a1, .ref a2, .ref a3, .int n, .ref a4, .int k, .ref a5])), (a1, .inl (cJ, 500, .inr (.inl ab))), (a2, .inl (cJ, 500, .inr (.inl be))), (a3, .inl (cI, 500, .inl un)), (a5, .inl (cT, 4, .inr (.inr (.inr (.inr tf))))), (th, .inr (0, [.ref tx, .ref ty, .long tb, .int tc]))] U ∧ nwd U)) (k2_QcV (.long (f_X_told ab be un n k tc a wh))) 0 0 (fun _ => False) := by
  refine Met.ofW (cc := c_X_told) (maxL := 4) (ret := (Option.some Jvm.ClassFile.FieldType.long)) (by decide) rfl ?_
  intro p e s m args below meth c s₁ B hml hv
  obtain ⟨rfl, ⟨hP, hK⟩, hN⟩ := hv
  have hx := B.exec
  have hb := B.bytes
  have hr := B.returns
  have hts := atoms_spec (ws := w_X_told) B.pre
  have hg : ∀ w ∈ WG, w.before _ s = true := fun w h => hts w (List.mem_cons_of_mem _ h)
  have hown : s.vm.findClass R_X = some m.cls := findClass_of_methodNamed B.named
  have hlocks := B.notSynchronized
  have hl := lv_entry ([.ref h, .int a, .int wh]) (n := 4) (Nat.le_of_ble_eq_true rfl)
  rw [lg_entry_eq]
  generalize (lg_sl ([.ref h, .int a, .int wh]) ++ List.replicate (4 - (lg_sl ([.ref h, .int a, .int wh])).length) Slot.unset).toArray = ls at hl ⊢
  have hl : lv_has ls 4 [(0, .ref h), (1, .int a), (2, .int wh)] := hl
  have hP : va_P (dC, dI) classes [(h, .inr (1, [.ref a1, .ref a2, .ref a3, .int n, .ref a4, .int k, .ref a5])), (a1, .inl (cJ, 500, .inr (.inl ab))), (a2, .inl (cJ, 500, .inr (.inl be))), (a3, .inl (cI, 500, .inl un)), (a5, .inl (cT, 4, .inr (.inr (.inr (.inr tf))))), (th, .inr (0, [.ref tx, .ref ty, .long tb, .int tc]))] s.heap := hP
  refine lv_iload_n hx hb d_X_told_0 rfl (lv_at hl 2 rfl) ?_
  by_cases c_1 : wh = 0
  · skip
    refine lv_tableIn (off := 39) (tgt := 40) hx hb d_X_told_1 (by rw [c_1]; decide) (by rw [c_1]; decide) (by rw [c_1]; rfl) (by decide) ?_
    refine lv_aload_n hx hb d_X_told_40 rfl (lv_at hl 0 rfl) ?_
    refine lv_iload_n hx hb d_X_told_41 rfl (lv_at hl 1 rfl) ?_
    have hPc := hP.sub (ws' := [(h, .inr (1, [.ref a1, .ref a2, .ref a3, .int n, .ref a4, .int k, .ref a5]))]) [0] rfl
    refine W.callV (W.runV (As := [.int a]) (rest := []) ⟨hx, hb, hml, hown, hg⟩ (k_X_isAmount l dC dI cJ cI cT h a1 a2 a3 a4 a5 n k a) (q_V 1 hg wg_66 wg_64 wg_65 wg_0 wg_13 rfl rfl (by decide +kernel) ⟨Nat.le_of_ble_eq_true rfl, Nat.le_of_ble_eq_true rfl⟩) ⟨wd_blind, va_recv hK hPc (ci := 1) (q0 := 0) rfl rfl, wd_pre (as := .ref h :: [.int a]) hPc hK⟩ rfl rfl hl.1 rfl (lv_room (Nat.le_of_ble_eq_true rfl)) d_X_told_42 ⟨Nat.le_of_ble_eq_true rfl, Nat.le_of_ble_eq_true rfl⟩) ?_
    refine W.eq (g2 := F0 m 45 ls (.int (f_X_isAmount a n) :: [])) rfl ?_
    refine lv_if_eq (tgt := 57) hx hb d_X_told_45 (by decide) (fun c_2 => ?_) (fun c_2 => ?_)
    · skip
      refine lv_ldc2 (v := (-9)) hx hb hown (hg _ wg_162) d_X_told_57 ?_
      have hz : f_X_told ab be un n k tc a wh = (-9) := by unfold f_X_told; rw [if_pos c_1, if_pos c_2]
      exact W.lret hx hb hr (fun t ht _ => ⟨by rw [hz], ht⟩) (fun _ h => by cases h) d_X_told_60
    · skip
      refine lv_aload_n hx hb d_X_told_48 rfl (lv_at hl 0 rfl) ?_
      refine va_get (D := (dC, dI)) (ci := 1) (v := .ref a1) (C := R_X) (T := F_X) (N := 7) hx hb hg in_X hown hK hP 0 rfl rfl 0 (by decide) (hg _ wg_46) (fun _ h9 => h9) rfl d_X_told_49 ?_
      refine lv_iload_n hx hb d_X_told_52 rfl (lv_at hl 1 rfl) ?_
      refine va_lald hx hb hK hP 1 0 rfl rfl (am_in c_2 hn) d_X_told_53 ?_
      refine lv_goto (tgt := 60) hx hb d_X_told_54 (by decide) ?_
      have hz : f_X_told ab be un n k tc a wh = ab a.toNatClampNeg := by unfold f_X_told; rw [if_pos c_1, if_neg c_2]
      exact W.lret hx hb hr (fun t ht _ => ⟨by rw [hz], ht⟩) (fun _ h => by cases h) d_X_told_60
  · skip
    by_cases c_3 : wh = 1
    · skip
      refine lv_tableIn (off := 60) (tgt := 61) hx hb d_X_told_1 (by rw [c_3]; decide) (by rw [c_3]; decide) (by rw [c_3]; rfl) (by decide) ?_
      refine lv_aload_n hx hb d_X_told_61 rfl (lv_at hl 0 rfl) ?_
      refine lv_iload_n hx hb d_X_told_62 rfl (lv_at hl 1 rfl) ?_
      have hPc := hP.sub (ws' := [(h, .inr (1, [.ref a1, .ref a2, .ref a3, .int n, .ref a4, .int k, .ref a5]))]) [0] rfl
      refine W.callV (W.runV (As := [.int a]) (rest := []) ⟨hx, hb, hml, hown, hg⟩ (k_X_isAmount l dC dI cJ cI cT h a1 a2 a3 a4 a5 n k a) (q_V 1 hg wg_66 wg_64 wg_65 wg_0 wg_13 rfl rfl (by decide +kernel) ⟨Nat.le_of_ble_eq_true rfl, Nat.le_of_ble_eq_true rfl⟩) ⟨wd_blind, va_recv hK hPc (ci := 1) (q0 := 0) rfl rfl, wd_pre (as := .ref h :: [.int a]) hPc hK⟩ rfl rfl hl.1 rfl (lv_room (Nat.le_of_ble_eq_true rfl)) d_X_told_63 ⟨Nat.le_of_ble_eq_true rfl, Nat.le_of_ble_eq_true rfl⟩) ?_
      refine W.eq (g2 := F0 m 66 ls (.int (f_X_isAmount a n) :: [])) rfl ?_
      refine lv_if_eq (tgt := 78) hx hb d_X_told_66 (by decide) (fun c_4 => ?_) (fun c_4 => ?_)
      · skip
        refine lv_ldc2 (v := (-9)) hx hb hown (hg _ wg_162) d_X_told_78 ?_
        have hz : f_X_told ab be un n k tc a wh = (-9) := by unfold f_X_told; rw [if_neg c_1, if_pos c_3, if_pos c_4]
        exact W.lret hx hb hr (fun t ht _ => ⟨by rw [hz], ht⟩) (fun _ h => by cases h) d_X_told_81
      · skip
        refine lv_aload_n hx hb d_X_told_69 rfl (lv_at hl 0 rfl) ?_
        refine va_get (D := (dC, dI)) (ci := 1) (v := .ref a2) (C := R_X) (T := F_X) (N := 7) hx hb hg in_X hown hK hP 0 rfl rfl 1 (by decide) (hg _ wg_47) (fun _ h9 => h9) rfl d_X_told_70 ?_
        refine lv_iload_n hx hb d_X_told_73 rfl (lv_at hl 1 rfl) ?_
        refine va_lald hx hb hK hP 2 0 rfl rfl (am_in c_4 hn) d_X_told_74 ?_
        refine lv_goto (tgt := 81) hx hb d_X_told_75 (by decide) ?_
        have hz : f_X_told ab be un n k tc a wh = be a.toNatClampNeg := by unfold f_X_told; rw [if_neg c_1, if_pos c_3, if_neg c_4]
        exact W.lret hx hb hr (fun t ht _ => ⟨by rw [hz], ht⟩) (fun _ h => by cases h) d_X_told_81
    · skip
      by_cases c_5 : wh = 2
      · skip
        refine lv_tableIn (off := 81) (tgt := 82) hx hb d_X_told_1 (by rw [c_5]; decide) (by rw [c_5]; decide) (by rw [c_5]; rfl) (by decide) ?_
        refine lv_aload_n hx hb d_X_told_82 rfl (lv_at hl 0 rfl) ?_
        refine lv_iload_n hx hb d_X_told_83 rfl (lv_at hl 1 rfl) ?_
        have hPc := hP.sub (ws' := [(h, .inr (1, [.ref a1, .ref a2, .ref a3, .int n, .ref a4, .int k, .ref a5]))]) [0] rfl
        refine W.callV (W.runV (As := [.int a]) (rest := []) ⟨hx, hb, hml, hown, hg⟩ (k_X_isAmount l dC dI cJ cI cT h a1 a2 a3 a4 a5 n k a) (q_V 1 hg wg_66 wg_64 wg_65 wg_0 wg_13 rfl rfl (by decide +kernel) ⟨Nat.le_of_ble_eq_true rfl, Nat.le_of_ble_eq_true rfl⟩) ⟨wd_blind, va_recv hK hPc (ci := 1) (q0 := 0) rfl rfl, wd_pre (as := .ref h :: [.int a]) hPc hK⟩ rfl rfl hl.1 rfl (lv_room (Nat.le_of_ble_eq_true rfl)) d_X_told_84 ⟨Nat.le_of_ble_eq_true rfl, Nat.le_of_ble_eq_true rfl⟩) ?_
        refine W.eq (g2 := F0 m 87 ls (.int (f_X_isAmount a n) :: [])) rfl ?_
        refine lv_if_eq (tgt := 100) hx hb d_X_told_87 (by decide) (fun c_6 => ?_) (fun c_6 => ?_)
        · skip
          refine lv_ldc2 (v := (-9)) hx hb hown (hg _ wg_162) d_X_told_100 ?_
          have hz : f_X_told ab be un n k tc a wh = (-9) := by unfold f_X_told; rw [if_neg c_1, if_neg c_3, if_pos c_5, if_pos c_6]
          exact W.lret hx hb hr (fun t ht _ => ⟨by rw [hz], ht⟩) (fun _ h => by cases h) d_X_told_103
        · skip
          refine lv_aload_n hx hb d_X_told_90 rfl (lv_at hl 0 rfl) ?_
          refine va_get (D := (dC, dI)) (ci := 1) (v := .ref a3) (C := R_X) (T := F_X) (N := 7) hx hb hg in_X hown hK hP 0 rfl rfl 2 (by decide) (hg _ wg_48) (fun _ h9 => h9) rfl d_X_told_91 ?_
          refine lv_iload_n hx hb d_X_told_94 rfl (lv_at hl 1 rfl) ?_
          refine va_iald hx hb hK hP 3 1 rfl rfl (am_in c_6 hn) d_X_told_95 ?_
          refine lv_i2l hx hb d_X_told_96 rfl ?_
          refine lv_goto (tgt := 103) hx hb d_X_told_97 (by decide) ?_
          have hz : f_X_told ab be un n k tc a wh = (un a.toNatClampNeg).toInt64 := by unfold f_X_told; rw [if_neg c_1, if_neg c_3, if_pos c_5, if_neg c_6]
          exact W.lret hx hb hr (fun t ht _ => ⟨by rw [hz], ht⟩) (fun _ h => by cases h) d_X_told_103
      · skip
        by_cases c_7 : wh = 3
        · skip
          refine lv_tableIn (off := 103) (tgt := 104) hx hb d_X_told_1 (by rw [c_7]; decide) (by rw [c_7]; decide) (by rw [c_7]; rfl) (by decide) ?_
          refine lv_aload_n hx hb d_X_told_104 rfl (lv_at hl 0 rfl) ?_
          refine va_get (D := (dC, dI)) (ci := 1) (v := .int n) (C := R_X) (T := F_X) (N := 7) hx hb hg in_X hown hK hP 0 rfl rfl 3 (by decide) (hg _ wg_49) (fun _ h9 => h9) rfl d_X_told_105 ?_
          refine lv_i2l hx hb d_X_told_108 rfl ?_
          have hz : f_X_told ab be un n k tc a wh = n.toInt64 := by unfold f_X_told; rw [if_neg c_1, if_neg c_3, if_neg c_5, if_pos c_7]
          exact W.lret hx hb hr (fun t ht _ => ⟨by rw [hz], ht⟩) (fun _ h => by cases h) d_X_told_109
        · skip
          by_cases c_8 : wh = 4
          · skip
            refine lv_tableIn (off := 109) (tgt := 110) hx hb d_X_told_1 (by rw [c_8]; decide) (by rw [c_8]; decide) (by rw [c_8]; rfl) (by decide) ?_
            refine lv_aload_n hx hb d_X_told_110 rfl (lv_at hl 0 rfl) ?_
            refine va_get (D := (dC, dI)) (ci := 1) (v := .int k) (C := R_X) (T := F_X) (N := 7) hx hb hg in_X hown hK hP 0 rfl rfl 5 (by decide) (hg _ wg_51) (fun _ h9 => h9) rfl d_X_told_111 ?_
            refine lv_i2l hx hb d_X_told_114 rfl ?_
            have hz : f_X_told ab be un n k tc a wh = k.toInt64 := by unfold f_X_told; rw [if_neg c_1, if_neg c_3, if_neg c_5, if_neg c_7, if_pos c_8]
            exact W.lret hx hb hr (fun t ht _ => ⟨by rw [hz], ht⟩) (fun _ h => by cases h) d_X_told_115
          · skip
            by_cases c_9 : wh = 5
            · skip
              refine lv_tableIn (off := 115) (tgt := 116) hx hb d_X_told_1 (by rw [c_9]; decide) (by rw [c_9]; decide) (by rw [c_9]; rfl) (by decide) ?_
              refine lv_aload_n hx hb d_X_told_116 rfl (lv_at hl 0 rfl) ?_
              refine lv_iload_n hx hb d_X_told_117 rfl (lv_at hl 1 rfl) ?_
              have hPc := hP.sub (ws' := [(h, .inr (1, [.ref a1, .ref a2, .ref a3, .int n, .ref a4, .int k, .ref a5])), (a5, .inl (cT, 4, .inr (.inr (.inr (.inr tf)))))]) [0, 4] rfl
              refine W.callV (W.runV (As := [.int a]) (rest := []) ⟨hx, hb, hml, hown, hg⟩ (k_X_tableAt l dC dI cJ cI cT h a1 a2 a3 a4 a5 n k tf a) (q_V 1 hg wg_122 wg_120 wg_121 wg_2 wg_13 rfl rfl (by decide +kernel) ⟨Nat.le_of_ble_eq_true rfl, Nat.le_of_ble_eq_true rfl⟩) ⟨wd_blind, va_recv hK hPc (ci := 1) (q0 := 0) rfl rfl, wd_pre (as := .ref h :: [.int a]) hPc hK⟩ rfl rfl hl.1 rfl (lv_room (Nat.le_of_ble_eq_true rfl)) d_X_told_118 ⟨Nat.le_of_ble_eq_true rfl, Nat.le_of_ble_eq_true rfl⟩) ?_
              refine W.eq (g2 := F0 m 121 ls (.ref th :: [])) (by rw [hf] <;> rfl) ?_
              refine lv_astore_n (lv' := [(3, .ref th), (0, .ref h), (1, .int a), (2, .int wh)]) hx hb d_X_told_121 rfl hl (by decide) rfl (fun ls hl => ?_)
              refine lv_aload_n hx hb d_X_told_122 rfl (lv_at hl 0 rfl) ?_
              refine lv_ifnonnull (tgt := 132) hx hb d_X_told_123 (by decide) ?_
              refine lv_aload_n hx hb d_X_told_132 rfl (lv_at hl 0 rfl) ?_
              refine va_getN (D := (dC, dI)) (ci := 0) (v := .int tc) (C := R_T) (T := F_T) (N := 4) hx hb hg in_T hown hK hP 5 rfl rfl 3 (by decide) (va_Nw.use rfl (hN _ nw_4)) (fun _ h9 => h9) rfl d_X_told_133 ?_
              refine lv_i2l hx hb d_X_told_136 rfl ?_
              have hz : f_X_told ab be un n k tc a wh = tc.toInt64 := by unfold f_X_told; rw [if_neg c_1, if_neg c_3, if_neg c_5, if_neg c_7, if_neg c_8, if_pos c_9]
              exact W.lret hx hb hr (fun t ht _ => ⟨by rw [hz], ht⟩) (fun _ h => by cases h) d_X_told_137
            · skip
              refine lv_tableOut (tgt := 138) hx hb d_X_told_1 (by have n0 := lv_neT (a := 0) c_1 rfl; have n1 := lv_neT (a := 1) c_3 rfl; have n2 := lv_neT (a := 2) c_5 rfl; have n3 := lv_neT (a := 3) c_7 rfl; have n4 := lv_neT (a := 4) c_8 rfl; have n5 := lv_neT (a := 5) c_9 rfl; omega) (by decide) ?_
              refine lv_ldc2 (v := (-9)) hx hb hown (hg _ wg_162) d_X_told_138 ?_
              have hz : f_X_told ab be un n k tc a wh = (-9) := by unfold f_X_told; rw [if_neg c_1, if_neg c_3, if_neg c_5, if_neg c_7, if_neg c_8, if_neg c_9]
              exact W.lret hx hb hr (fun t ht _ => ⟨by rw [hz], ht⟩) (fun _ h => by cases h) d_X_told_141
def f_X_told_out (ab be : Nat → Int64) (un : Nat → Int32) (n k a wh : Int32) : Int64 := if wh = 0 then if (f_X_isAmount a n) = 0 then (-9) else (ab a.toNatClampNeg) else if wh = 1 then if (f_X_isAmount a n) = 0 then (-9) else (be a.toNatClampNeg) else if wh = 2 then if (f_X_isAmount a n) = 0 then (-9) else ((un a.toNatClampNeg).toInt64) else if wh = 3 then n.toInt64 else if wh = 4 then k.toInt64 else if wh = 5 then (-9) else (-9)
set_option maxHeartbeats 4000000 in
set_option maxRecDepth 100000 in
theorem k_X_told_out (l : Launch) (dC : Nat → ClassId) (dI : Nat → Nat → Nat) (cJ cI cT : ClassId) (h a1 a2 a3 a4 a5 : Nat) (n k : Int32) (ab be : Nat → Int64) (un : Nat → Int32) (tf : Nat → Option Nat) (a wh : Int32) (hn : n.toInt ≤ (500 : Nat)) (hf : f_X_tableAt tf a = none) : Met l y_X_told w_X_told ({ frames := 1, cells := 0, slots := 0, locals := 21 }) (va_Pc [.ref h, .int a, .int wh] (wd dC dI cJ cI cT [(h, .inr (1, [.ref a1, .ref a2, .ref a3, .int n, .ref a4, .int k, .ref a5])), (a1, .inl (cJ, 500, .inr (.inl ab))), (a2, .inl (cJ, 500, .inr (.inl be))), (a3, .inl (cI, 500, .inl un)), (a5, .inl (cT, 4, .inr (.inr (.inr (.inr tf)))))])) (k2_QcV (.long (f_X_told_out ab be un n k a wh))) 0 0 (fun _ => False) := by
  refine Met.ofW (cc := c_X_told) (maxL := 4) (ret := (Option.some Jvm.ClassFile.FieldType.long)) (by decide) rfl ?_
  intro p e s m args below meth c s₁ B hml hv
  obtain ⟨rfl, hP, hK⟩ := hv
  have hx := B.exec
  have hb := B.bytes
  have hr := B.returns
  have hts := atoms_spec (ws := w_X_told) B.pre
  have hg : ∀ w ∈ WG, w.before _ s = true := fun w h => hts w (List.mem_cons_of_mem _ h)
  have hown : s.vm.findClass R_X = some m.cls := findClass_of_methodNamed B.named
  have hlocks := B.notSynchronized
  have hl := lv_entry ([.ref h, .int a, .int wh]) (n := 4) (Nat.le_of_ble_eq_true rfl)
  rw [lg_entry_eq]
  generalize (lg_sl ([.ref h, .int a, .int wh]) ++ List.replicate (4 - (lg_sl ([.ref h, .int a, .int wh])).length) Slot.unset).toArray = ls at hl ⊢
  have hl : lv_has ls 4 [(0, .ref h), (1, .int a), (2, .int wh)] := hl
  have hP : va_P (dC, dI) classes [(h, .inr (1, [.ref a1, .ref a2, .ref a3, .int n, .ref a4, .int k, .ref a5])), (a1, .inl (cJ, 500, .inr (.inl ab))), (a2, .inl (cJ, 500, .inr (.inl be))), (a3, .inl (cI, 500, .inl un)), (a5, .inl (cT, 4, .inr (.inr (.inr (.inr tf)))))] s.heap := hP
  refine lv_iload_n hx hb d_X_told_0 rfl (lv_at hl 2 rfl) ?_
  by_cases c_1 : wh = 0
  · skip
    refine lv_tableIn (off := 39) (tgt := 40) hx hb d_X_told_1 (by rw [c_1]; decide) (by rw [c_1]; decide) (by rw [c_1]; rfl) (by decide) ?_
    refine lv_aload_n hx hb d_X_told_40 rfl (lv_at hl 0 rfl) ?_
    refine lv_iload_n hx hb d_X_told_41 rfl (lv_at hl 1 rfl) ?_
    have hPc := hP.sub (ws' := [(h, .inr (1, [.ref a1, .ref a2, .ref a3, .int n, .ref a4, .int k, .ref a5]))]) [0] rfl
    refine W.callV (W.runV (As := [.int a]) (rest := []) ⟨hx, hb, hml, hown, hg⟩ (k_X_isAmount l dC dI cJ cI cT h a1 a2 a3 a4 a5 n k a) (q_V 1 hg wg_66 wg_64 wg_65 wg_0 wg_13 rfl rfl (by decide +kernel) ⟨Nat.le_of_ble_eq_true rfl, Nat.le_of_ble_eq_true rfl⟩) ⟨wd_blind, va_recv hK hPc (ci := 1) (q0 := 0) rfl rfl, wd_pre (as := .ref h :: [.int a]) hPc hK⟩ rfl rfl hl.1 rfl (lv_room (Nat.le_of_ble_eq_true rfl)) d_X_told_42 ⟨Nat.le_of_ble_eq_true rfl, Nat.le_of_ble_eq_true rfl⟩) ?_
    refine W.eq (g2 := F0 m 45 ls (.int (f_X_isAmount a n) :: [])) rfl ?_
    refine lv_if_eq (tgt := 57) hx hb d_X_told_45 (by decide) (fun c_2 => ?_) (fun c_2 => ?_)
    · skip
      refine lv_ldc2 (v := (-9)) hx hb hown (hg _ wg_162) d_X_told_57 ?_
      have hz : f_X_told_out ab be un n k a wh = (-9) := by unfold f_X_told_out; rw [if_pos c_1, if_pos c_2]
      exact W.lret hx hb hr (fun t ht _ => ⟨by rw [hz], ht⟩) (fun _ h => by cases h) d_X_told_60
    · skip
      refine lv_aload_n hx hb d_X_told_48 rfl (lv_at hl 0 rfl) ?_
      refine va_get (D := (dC, dI)) (ci := 1) (v := .ref a1) (C := R_X) (T := F_X) (N := 7) hx hb hg in_X hown hK hP 0 rfl rfl 0 (by decide) (hg _ wg_46) (fun _ h9 => h9) rfl d_X_told_49 ?_
      refine lv_iload_n hx hb d_X_told_52 rfl (lv_at hl 1 rfl) ?_
      refine va_lald hx hb hK hP 1 0 rfl rfl (am_in c_2 hn) d_X_told_53 ?_
      refine lv_goto (tgt := 60) hx hb d_X_told_54 (by decide) ?_
      have hz : f_X_told_out ab be un n k a wh = ab a.toNatClampNeg := by unfold f_X_told_out; rw [if_pos c_1, if_neg c_2]
      exact W.lret hx hb hr (fun t ht _ => ⟨by rw [hz], ht⟩) (fun _ h => by cases h) d_X_told_60
  · skip
    by_cases c_3 : wh = 1
    · skip
      refine lv_tableIn (off := 60) (tgt := 61) hx hb d_X_told_1 (by rw [c_3]; decide) (by rw [c_3]; decide) (by rw [c_3]; rfl) (by decide) ?_
      refine lv_aload_n hx hb d_X_told_61 rfl (lv_at hl 0 rfl) ?_
      refine lv_iload_n hx hb d_X_told_62 rfl (lv_at hl 1 rfl) ?_
      have hPc := hP.sub (ws' := [(h, .inr (1, [.ref a1, .ref a2, .ref a3, .int n, .ref a4, .int k, .ref a5]))]) [0] rfl
      refine W.callV (W.runV (As := [.int a]) (rest := []) ⟨hx, hb, hml, hown, hg⟩ (k_X_isAmount l dC dI cJ cI cT h a1 a2 a3 a4 a5 n k a) (q_V 1 hg wg_66 wg_64 wg_65 wg_0 wg_13 rfl rfl (by decide +kernel) ⟨Nat.le_of_ble_eq_true rfl, Nat.le_of_ble_eq_true rfl⟩) ⟨wd_blind, va_recv hK hPc (ci := 1) (q0 := 0) rfl rfl, wd_pre (as := .ref h :: [.int a]) hPc hK⟩ rfl rfl hl.1 rfl (lv_room (Nat.le_of_ble_eq_true rfl)) d_X_told_63 ⟨Nat.le_of_ble_eq_true rfl, Nat.le_of_ble_eq_true rfl⟩) ?_
      refine W.eq (g2 := F0 m 66 ls (.int (f_X_isAmount a n) :: [])) rfl ?_
      refine lv_if_eq (tgt := 78) hx hb d_X_told_66 (by decide) (fun c_4 => ?_) (fun c_4 => ?_)
      · skip
        refine lv_ldc2 (v := (-9)) hx hb hown (hg _ wg_162) d_X_told_78 ?_
        have hz : f_X_told_out ab be un n k a wh = (-9) := by unfold f_X_told_out; rw [if_neg c_1, if_pos c_3, if_pos c_4]
        exact W.lret hx hb hr (fun t ht _ => ⟨by rw [hz], ht⟩) (fun _ h => by cases h) d_X_told_81
      · skip
        refine lv_aload_n hx hb d_X_told_69 rfl (lv_at hl 0 rfl) ?_
        refine va_get (D := (dC, dI)) (ci := 1) (v := .ref a2) (C := R_X) (T := F_X) (N := 7) hx hb hg in_X hown hK hP 0 rfl rfl 1 (by decide) (hg _ wg_47) (fun _ h9 => h9) rfl d_X_told_70 ?_
        refine lv_iload_n hx hb d_X_told_73 rfl (lv_at hl 1 rfl) ?_
        refine va_lald hx hb hK hP 2 0 rfl rfl (am_in c_4 hn) d_X_told_74 ?_
        refine lv_goto (tgt := 81) hx hb d_X_told_75 (by decide) ?_
        have hz : f_X_told_out ab be un n k a wh = be a.toNatClampNeg := by unfold f_X_told_out; rw [if_neg c_1, if_pos c_3, if_neg c_4]
        exact W.lret hx hb hr (fun t ht _ => ⟨by rw [hz], ht⟩) (fun _ h => by cases h) d_X_told_81
    · skip
      by_cases c_5 : wh = 2
      · skip
        refine lv_tableIn (off := 81) (tgt := 82) hx hb d_X_told_1 (by rw [c_5]; decide) (by rw [c_5]; decide) (by rw [c_5]; rfl) (by decide) ?_
        refine lv_aload_n hx hb d_X_told_82 rfl (lv_at hl 0 rfl) ?_
        refine lv_iload_n hx hb d_X_told_83 rfl (lv_at hl 1 rfl) ?_
        have hPc := hP.sub (ws' := [(h, .inr (1, [.ref a1, .ref a2, .ref a3, .int n, .ref a4, .int k, .ref a5]))]) [0] rfl
        refine W.callV (W.runV (As := [.int a]) (rest := []) ⟨hx, hb, hml, hown, hg⟩ (k_X_isAmount l dC dI cJ cI cT h a1 a2 a3 a4 a5 n k a) (q_V 1 hg wg_66 wg_64 wg_65 wg_0 wg_13 rfl rfl (by decide +kernel) ⟨Nat.le_of_ble_eq_true rfl, Nat.le_of_ble_eq_true rfl⟩) ⟨wd_blind, va_recv hK hPc (ci := 1) (q0 := 0) rfl rfl, wd_pre (as := .ref h :: [.int a]) hPc hK⟩ rfl rfl hl.1 rfl (lv_room (Nat.le_of_ble_eq_true rfl)) d_X_told_84 ⟨Nat.le_of_ble_eq_true rfl, Nat.le_of_ble_eq_true rfl⟩) ?_
        refine W.eq (g2 := F0 m 87 ls (.int (f_X_isAmount a n) :: [])) rfl ?_
        refine lv_if_eq (tgt := 100) hx hb d_X_told_87 (by decide) (fun c_6 => ?_) (fun c_6 => ?_)
        · skip
          refine lv_ldc2 (v := (-9)) hx hb hown (hg _ wg_162) d_X_told_100 ?_
          have hz : f_X_told_out ab be un n k a wh = (-9) := by unfold f_X_told_out; rw [if_neg c_1, if_neg c_3, if_pos c_5, if_pos c_6]
          exact W.lret hx hb hr (fun t ht _ => ⟨by rw [hz], ht⟩) (fun _ h => by cases h) d_X_told_103
        · skip
          refine lv_aload_n hx hb d_X_told_90 rfl (lv_at hl 0 rfl) ?_
          refine va_get (D := (dC, dI)) (ci := 1) (v := .ref a3) (C := R_X) (T := F_X) (N := 7) hx hb hg in_X hown hK hP 0 rfl rfl 2 (by decide) (hg _ wg_48) (fun _ h9 => h9) rfl d_X_told_91 ?_
          refine lv_iload_n hx hb d_X_told_94 rfl (lv_at hl 1 rfl) ?_
          refine va_iald hx hb hK hP 3 1 rfl rfl (am_in c_6 hn) d_X_told_95 ?_
          refine lv_i2l hx hb d_X_told_96 rfl ?_
          refine lv_goto (tgt := 103) hx hb d_X_told_97 (by decide) ?_
          have hz : f_X_told_out ab be un n k a wh = (un a.toNatClampNeg).toInt64 := by unfold f_X_told_out; rw [if_neg c_1, if_neg c_3, if_pos c_5, if_neg c_6]
          exact W.lret hx hb hr (fun t ht _ => ⟨by rw [hz], ht⟩) (fun _ h => by cases h) d_X_told_103
      · skip
        by_cases c_7 : wh = 3
        · skip
          refine lv_tableIn (off := 103) (tgt := 104) hx hb d_X_told_1 (by rw [c_7]; decide) (by rw [c_7]; decide) (by rw [c_7]; rfl) (by decide) ?_
          refine lv_aload_n hx hb d_X_told_104 rfl (lv_at hl 0 rfl) ?_
          refine va_get (D := (dC, dI)) (ci := 1) (v := .int n) (C := R_X) (T := F_X) (N := 7) hx hb hg in_X hown hK hP 0 rfl rfl 3 (by decide) (hg _ wg_49) (fun _ h9 => h9) rfl d_X_told_105 ?_
          refine lv_i2l hx hb d_X_told_108 rfl ?_
          have hz : f_X_told_out ab be un n k a wh = n.toInt64 := by unfold f_X_told_out; rw [if_neg c_1, if_neg c_3, if_neg c_5, if_pos c_7]
          exact W.lret hx hb hr (fun t ht _ => ⟨by rw [hz], ht⟩) (fun _ h => by cases h) d_X_told_109
        · skip
          by_cases c_8 : wh = 4
          · skip
            refine lv_tableIn (off := 109) (tgt := 110) hx hb d_X_told_1 (by rw [c_8]; decide) (by rw [c_8]; decide) (by rw [c_8]; rfl) (by decide) ?_
            refine lv_aload_n hx hb d_X_told_110 rfl (lv_at hl 0 rfl) ?_
            refine va_get (D := (dC, dI)) (ci := 1) (v := .int k) (C := R_X) (T := F_X) (N := 7) hx hb hg in_X hown hK hP 0 rfl rfl 5 (by decide) (hg _ wg_51) (fun _ h9 => h9) rfl d_X_told_111 ?_
            refine lv_i2l hx hb d_X_told_114 rfl ?_
            have hz : f_X_told_out ab be un n k a wh = k.toInt64 := by unfold f_X_told_out; rw [if_neg c_1, if_neg c_3, if_neg c_5, if_neg c_7, if_pos c_8]
            exact W.lret hx hb hr (fun t ht _ => ⟨by rw [hz], ht⟩) (fun _ h => by cases h) d_X_told_115
          · skip
            by_cases c_9 : wh = 5
            · skip
              refine lv_tableIn (off := 115) (tgt := 116) hx hb d_X_told_1 (by rw [c_9]; decide) (by rw [c_9]; decide) (by rw [c_9]; rfl) (by decide) ?_
              refine lv_aload_n hx hb d_X_told_116 rfl (lv_at hl 0 rfl) ?_
              refine lv_iload_n hx hb d_X_told_117 rfl (lv_at hl 1 rfl) ?_
              have hPc := hP.sub (ws' := [(h, .inr (1, [.ref a1, .ref a2, .ref a3, .int n, .ref a4, .int k, .ref a5])), (a5, .inl (cT, 4, .inr (.inr (.inr (.inr tf)))))]) [0, 4] rfl
              refine W.callV (W.runV (As := [.int a]) (rest := []) ⟨hx, hb, hml, hown, hg⟩ (k_X_tableAt l dC dI cJ cI cT h a1 a2 a3 a4 a5 n k tf a) (q_V 1 hg wg_122 wg_120 wg_121 wg_2 wg_13 rfl rfl (by decide +kernel) ⟨Nat.le_of_ble_eq_true rfl, Nat.le_of_ble_eq_true rfl⟩) ⟨wd_blind, va_recv hK hPc (ci := 1) (q0 := 0) rfl rfl, wd_pre (as := .ref h :: [.int a]) hPc hK⟩ rfl rfl hl.1 rfl (lv_room (Nat.le_of_ble_eq_true rfl)) d_X_told_118 ⟨Nat.le_of_ble_eq_true rfl, Nat.le_of_ble_eq_true rfl⟩) ?_
              refine W.eq (g2 := F0 m 121 ls (.null :: [])) (by rw [hf] <;> rfl) ?_
              refine lv_astore_nN (lv' := [(3, .null), (0, .ref h), (1, .int a), (2, .int wh)]) hx hb d_X_told_121 rfl hl (by decide) rfl (fun ls hl => ?_)
              refine lv_aload_nN hx hb d_X_told_122 rfl (lv_at hl 0 rfl) ?_
              refine lv_ifnonnullN hx hb d_X_told_123 ?_
              refine lv_ldc2 (v := (-9)) hx hb hown (hg _ wg_162) d_X_told_126 ?_
              refine lv_goto (tgt := 137) hx hb d_X_told_129 (by decide) ?_
              have hz : f_X_told_out ab be un n k a wh = (-9) := by unfold f_X_told_out; rw [if_neg c_1, if_neg c_3, if_neg c_5, if_neg c_7, if_neg c_8, if_pos c_9]
              exact W.lret hx hb hr (fun t ht _ => ⟨by rw [hz], ht⟩) (fun _ h => by cases h) d_X_told_137
            · skip
              refine lv_tableOut (tgt := 138) hx hb d_X_told_1 (by have n0 := lv_neT (a := 0) c_1 rfl; have n1 := lv_neT (a := 1) c_3 rfl; have n2 := lv_neT (a := 2) c_5 rfl; have n3 := lv_neT (a := 3) c_7 rfl; have n4 := lv_neT (a := 4) c_8 rfl; have n5 := lv_neT (a := 5) c_9 rfl; omega) (by decide) ?_
              refine lv_ldc2 (v := (-9)) hx hb hown (hg _ wg_162) d_X_told_138 ?_
              have hz : f_X_told_out ab be un n k a wh = (-9) := by unfold f_X_told_out; rw [if_neg c_1, if_neg c_3, if_neg c_5, if_neg c_7, if_neg c_8, if_neg c_9]
              exact W.lret hx hb hr (fun t ht _ => ⟨by rw [hz], ht⟩) (fun _ h => by cases h) d_X_told_141
set_option maxHeartbeats 4000000 in
set_option maxRecDepth 100000 in
theorem k_X_clear (l : Launch) (dC : Nat → ClassId) (dI : Nat → Nat → Nat) (cJ cI cT : ClassId) (h a1 a2 a3 a4 a5 : Nat) (n k : Int32) (tf : Nat → Option Nat) (t0 t1 t2 t3 x0 x1 x2 x3 y0 y1 y2 y3 : Nat) (b0 b1 b2 b3 : Int64) (c0 c1 c2 c3 : Int32) (sz : Nat) (hf0 : f_X_tableAt tf 0 = some t0) (hf1 : f_X_tableAt tf 1 = some t1) (hf2 : f_X_tableAt tf 2 = some t2) (hf3 : f_X_tableAt tf 3 = some t3) : Met l y_X_clear w_X_clear ({ frames := 1, cells := 0, slots := 0, locals := 21 }) (va_Pc [.ref h] (fun U => wx dC dI cJ cI cT sz [(h, .inr (1, [.ref a1, .ref a2, .ref a3, .int n, .ref a4, .int k, .ref a5])), (a5, .inl (cT, 4, .inr (.inr (.inr (.inr tf))))), (t0, .inr (0, [.ref x0, .ref y0, .long b0, .int c0])), (t1, .inr (0, [.ref x1, .ref y1, .long b1, .int c1])), (t2, .inr (0, [.ref x2, .ref y2, .long b2, .int c2])), (t3, .inr (0, [.ref x3, .ref y3, .long b3, .int c3]))] U ∧ nwd U)) (va_Qv (fun (u : Unit) => u = ()) (fun u => wb dC dI cJ cI cT (va_A [(h, .inr (1, [.ref a1, .ref a2, .ref a3, .int n, .ref a4, .int k, .ref a5])), (a5, .inl (cT, 4, .inr (.inr (.inr (.inr tf))))), (t0, .inr (0, [.ref x0, .ref y0, .long b0, .int c0])), (t1, .inr (0, [.ref x1, .ref y1, .long b1, .int c1])), (t2, .inr (0, [.ref x2, .ref y2, .long b2, .int c2])), (t3, .inr (0, [.ref x3, .ref y3, .long b3, .int c3]))] sz) [(h, .inr (1, [.ref a1, .ref a2, .ref a3, .int 0, .ref a4, .int 0, .ref a5])), (a5, .inl (cT, 4, .inr (.inr (.inr (.inr tf))))), (t0, .inr (0, [.ref x0, .ref y0, .long b0, .int 0])), (t1, .inr (0, [.ref x1, .ref y1, .long b1, .int 0])), (t2, .inr (0, [.ref x2, .ref y2, .long b2, .int 0])), (t3, .inr (0, [.ref x3, .ref y3, .long b3, .int 0]))]) (va_A [(h, .inr (1, [.ref a1, .ref a2, .ref a3, .int n, .ref a4, .int k, .ref a5])), (a5, .inl (cT, 4, .inr (.inr (.inr (.inr tf))))), (t0, .inr (0, [.ref x0, .ref y0, .long b0, .int c0])), (t1, .inr (0, [.ref x1, .ref y1, .long b1, .int c1])), (t2, .inr (0, [.ref x2, .ref y2, .long b2, .int c2])), (t3, .inr (0, [.ref x3, .ref y3, .long b3, .int c3]))] sz)) 0 0 (va_A [(h, .inr (1, [.ref a1, .ref a2, .ref a3, .int n, .ref a4, .int k, .ref a5])), (a5, .inl (cT, 4, .inr (.inr (.inr (.inr tf))))), (t0, .inr (0, [.ref x0, .ref y0, .long b0, .int c0])), (t1, .inr (0, [.ref x1, .ref y1, .long b1, .int c1])), (t2, .inr (0, [.ref x2, .ref y2, .long b2, .int c2])), (t3, .inr (0, [.ref x3, .ref y3, .long b3, .int c3]))] sz) := by
  refine Met.ofW (cc := c_X_clear) (maxL := 3) (ret := (Option.none : Option Jvm.ClassFile.FieldType)) (by decide) rfl ?_
  intro p e s m args below meth c s₁ B hml hv
  obtain ⟨rfl, ⟨hsz, hP, hK, hD0⟩, hN⟩ := hv
  have hx := B.exec
  have hb := B.bytes
  have hr := B.returns
  have hts := atoms_spec (ws := w_X_clear) B.pre
  have hg : ∀ w ∈ WG, w.before _ s = true := fun w h => hts w (List.mem_cons_of_mem _ h)
  have hown : s.vm.findClass R_X = some m.cls := findClass_of_methodNamed B.named
  have hlocks := B.notSynchronized
  have hl := lv_entry ([.ref h]) (n := 3) (Nat.le_of_ble_eq_true rfl)
  rw [lg_entry_eq]
  generalize (lg_sl ([.ref h]) ++ List.replicate (3 - (lg_sl ([.ref h])).length) Slot.unset).toArray = ls at hl ⊢
  have hl : lv_has ls 3 [(0, .ref h)] := hl
  subst hsz
  have hD := hD0.self (sz := s.heap.size)
  generalize hAe : va_A [(h, .inr (1, [.ref a1, .ref a2, .ref a3, .int n, .ref a4, .int k, .ref a5])), (a5, .inl (cT, 4, .inr (.inr (.inr (.inr tf))))), (t0, .inr (0, [.ref x0, .ref y0, .long b0, .int c0])), (t1, .inr (0, [.ref x1, .ref y1, .long b1, .int c1])), (t2, .inr (0, [.ref x2, .ref y2, .long b2, .int c2])), (t3, .inr (0, [.ref x3, .ref y3, .long b3, .int c3]))] s.heap.size = A at hD ⊢
  have hA : ∀ q : Nat, s.heap.size ≤ q → A q := fun q h => by rw [← hAe]; exact Or.inr h
  have hS : va_S A s.heap s.heap [] := va_S.rf
  have hP : va_P (dC, dI) classes [(h, .inr (1, [.ref a1, .ref a2, .ref a3, .int n, .ref a4, .int k, .ref a5])), (a5, .inl (cT, 4, .inr (.inr (.inr (.inr tf))))), (t0, .inr (0, [.ref x0, .ref y0, .long b0, .int c0])), (t1, .inr (0, [.ref x1, .ref y1, .long b1, .int c1])), (t2, .inr (0, [.ref x2, .ref y2, .long b2, .int c2])), (t3, .inr (0, [.ref x3, .ref y3, .long b3, .int c3]))] s.heap := hP
  have hD : va_D A [(h, .inr (1, [.ref a1, .ref a2, .ref a3, .int n, .ref a4, .int k, .ref a5])), (a5, .inl (cT, 4, .inr (.inr (.inr (.inr tf))))), (t0, .inr (0, [.ref x0, .ref y0, .long b0, .int c0])), (t1, .inr (0, [.ref x1, .ref y1, .long b1, .int c1])), (t2, .inr (0, [.ref x2, .ref y2, .long b2, .int c2])), (t3, .inr (0, [.ref x3, .ref y3, .long b3, .int c3]))] := hD
  skip
  refine lv_aload_n hx hb d_X_clear_0 rfl (lv_at hl 0 rfl) ?_
  refine lv_iconst (v := 0) hx hb d_X_clear_1 (by decide) ?_
  refine va_put (D := (dC, dI)) (ci := 1) (v := .int 0) (ty := .int) (C := R_X) (T := F_X) (N := 7) hx hb hg in_X tt_X tt_X_ok nn_X hown hK hP hD hS 0 rfl rfl 3 (by decide) (hg _ wg_49) (fun _ h9 => h9) rfl (by decide +kernel) rfl rfl (Nat.le_of_ble_eq_true rfl) d_X_clear_2 (fun H locs hP hD hS => ?_)
  have hP : va_P (dC, dI) classes [(h, .inr (1, [.ref a1, .ref a2, .ref a3, .int 0, .ref a4, .int k, .ref a5])), (a5, .inl (cT, 4, .inr (.inr (.inr (.inr tf))))), (t0, .inr (0, [.ref x0, .ref y0, .long b0, .int c0])), (t1, .inr (0, [.ref x1, .ref y1, .long b1, .int c1])), (t2, .inr (0, [.ref x2, .ref y2, .long b2, .int c2])), (t3, .inr (0, [.ref x3, .ref y3, .long b3, .int c3]))] H := hP
  have hD : va_D A [(h, .inr (1, [.ref a1, .ref a2, .ref a3, .int 0, .ref a4, .int k, .ref a5])), (a5, .inl (cT, 4, .inr (.inr (.inr (.inr tf))))), (t0, .inr (0, [.ref x0, .ref y0, .long b0, .int c0])), (t1, .inr (0, [.ref x1, .ref y1, .long b1, .int c1])), (t2, .inr (0, [.ref x2, .ref y2, .long b2, .int c2])), (t3, .inr (0, [.ref x3, .ref y3, .long b3, .int c3]))] := hD
  refine lv_aload_n hx hb d_X_clear_5 rfl (lv_at hl 0 rfl) ?_
  refine lv_iconst (v := 0) hx hb d_X_clear_6 (by decide) ?_
  refine va_put (D := (dC, dI)) (ci := 1) (v := .int 0) (ty := .int) (C := R_X) (T := F_X) (N := 7) hx hb hg in_X tt_X tt_X_ok nn_X hown hK hP hD hS 0 rfl rfl 5 (by decide) (hg _ wg_51) (fun _ h9 => h9) rfl (by decide +kernel) rfl rfl (Nat.le_of_ble_eq_true rfl) d_X_clear_7 (fun H locs hP hD hS => ?_)
  have hP : va_P (dC, dI) classes [(h, .inr (1, [.ref a1, .ref a2, .ref a3, .int 0, .ref a4, .int 0, .ref a5])), (a5, .inl (cT, 4, .inr (.inr (.inr (.inr tf))))), (t0, .inr (0, [.ref x0, .ref y0, .long b0, .int c0])), (t1, .inr (0, [.ref x1, .ref y1, .long b1, .int c1])), (t2, .inr (0, [.ref x2, .ref y2, .long b2, .int c2])), (t3, .inr (0, [.ref x3, .ref y3, .long b3, .int c3]))] H := hP
  have hD : va_D A [(h, .inr (1, [.ref a1, .ref a2, .ref a3, .int 0, .ref a4, .int 0, .ref a5])), (a5, .inl (cT, 4, .inr (.inr (.inr (.inr tf))))), (t0, .inr (0, [.ref x0, .ref y0, .long b0, .int c0])), (t1, .inr (0, [.ref x1, .ref y1, .long b1, .int c1])), (t2, .inr (0, [.ref x2, .ref y2, .long b2, .int c2])), (t3, .inr (0, [.ref x3, .ref y3, .long b3, .int c3]))] := hD
  refine lv_iconst (v := 0) hx hb d_X_clear_10 (by decide) ?_
  refine lv_istore_n (lv' := [(1, .int 0), (0, .ref h)]) hx hb d_X_clear_11 rfl hl (by decide) rfl (fun ls hl => ?_)
  refine lv_iload_n hx hb d_X_clear_12 rfl (lv_at hl 0 rfl) ?_
  refine lv_iconst (v := 4) hx hb d_X_clear_13 (by decide) ?_
  refine lv_icmp_ge (tgt := 38) hx hb d_X_clear_14 (by decide) (fun c_1 => ?_) (fun c_1 => ?_)
  · skip
    exact absurd c_1 (by decide)
  · skip
    refine lv_aload_n hx hb d_X_clear_17 rfl (lv_at hl 1 rfl) ?_
    refine lv_iload_n hx hb d_X_clear_18 rfl (lv_at hl 0 rfl) ?_
    have hPc := hP.sub (ws' := [(h, .inr (1, [.ref a1, .ref a2, .ref a3, .int 0, .ref a4, .int 0, .ref a5])), (a5, .inl (cT, 4, .inr (.inr (.inr (.inr tf)))))]) [0, 1] rfl
    refine W.callV (W.runV (As := [.int 0]) (rest := []) ⟨hx, hb, hml, hown, hg⟩ (k_X_tableAt l dC dI cJ cI cT h a1 a2 a3 a4 a5 0 0 tf 0) (q_V 1 hg wg_122 wg_120 wg_121 wg_2 wg_13 rfl rfl (by decide +kernel) ⟨Nat.le_of_ble_eq_true rfl, Nat.le_of_ble_eq_true rfl⟩) ⟨wd_blind, va_recv hK hPc (ci := 1) (q0 := 0) rfl rfl, wd_pre (as := .ref h :: [.int 0]) hPc hK⟩ rfl rfl hl.1 rfl (lv_room (Nat.le_of_ble_eq_true rfl)) d_X_clear_19 ⟨Nat.le_of_ble_eq_true rfl, Nat.le_of_ble_eq_true rfl⟩) ?_
    refine W.eq (g2 := F0 m 22 ls (.ref t0 :: [])) (by rw [hf0] <;> rfl) ?_
    refine lv_astore_n (lv' := [(2, .ref t0), (1, .int 0), (0, .ref h)]) hx hb d_X_clear_22 rfl hl (by decide) rfl (fun ls hl => ?_)
    refine lv_aload_n hx hb d_X_clear_23 rfl (lv_at hl 0 rfl) ?_
    refine lv_ifnull hx hb d_X_clear_24 ?_
    refine lv_aload_n hx hb d_X_clear_27 rfl (lv_at hl 0 rfl) ?_
    refine lv_iconst (v := 0) hx hb d_X_clear_28 (by decide) ?_
    refine va_putN (D := (dC, dI)) (ci := 0) (v := .int 0) (ty := .int) (C := R_T) (T := F_T) (N := 4) hx hb hg in_T tt_T tt_T_ok nn_T hown hK hP hD hS 2 rfl rfl 3 (by decide) (va_Nw.use rfl (hN _ nw_4)) (fun _ h9 => h9) rfl (by decide +kernel) rfl rfl (Nat.le_of_ble_eq_true rfl) d_X_clear_29 (fun H locs hP hD hS => ?_)
    have hP : va_P (dC, dI) classes [(h, .inr (1, [.ref a1, .ref a2, .ref a3, .int 0, .ref a4, .int 0, .ref a5])), (a5, .inl (cT, 4, .inr (.inr (.inr (.inr tf))))), (t0, .inr (0, [.ref x0, .ref y0, .long b0, .int 0])), (t1, .inr (0, [.ref x1, .ref y1, .long b1, .int c1])), (t2, .inr (0, [.ref x2, .ref y2, .long b2, .int c2])), (t3, .inr (0, [.ref x3, .ref y3, .long b3, .int c3]))] H := hP
    have hD : va_D A [(h, .inr (1, [.ref a1, .ref a2, .ref a3, .int 0, .ref a4, .int 0, .ref a5])), (a5, .inl (cT, 4, .inr (.inr (.inr (.inr tf))))), (t0, .inr (0, [.ref x0, .ref y0, .long b0, .int 0])), (t1, .inr (0, [.ref x1, .ref y1, .long b1, .int c1])), (t2, .inr (0, [.ref x2, .ref y2, .long b2, .int c2])), (t3, .inr (0, [.ref x3, .ref y3, .long b3, .int c3]))] := hD
    refine lv_iinc (v := 1) (lv' := [(1, .int 1), (2, .ref t0), (0, .ref h)]) hx hb d_X_clear_32 hl (k := 1) rfl (by decide) (by decide) rfl (fun ls hl => ?_)
    refine lv_goto (tgt := 12) hx hb d_X_clear_35 (by decide) ?_
    refine lv_iload_n hx hb d_X_clear_12 rfl (lv_at hl 0 rfl) ?_
    refine lv_iconst (v := 4) hx hb d_X_clear_13 (by decide) ?_
    refine lv_icmp_ge (tgt := 38) hx hb d_X_clear_14 (by decide) (fun c_2 => ?_) (fun c_2 => ?_)
    · skip
      exact absurd c_2 (by decide)
    · skip
      refine lv_aload_n hx hb d_X_clear_17 rfl (lv_at hl 2 rfl) ?_
      refine lv_iload_n hx hb d_X_clear_18 rfl (lv_at hl 0 rfl) ?_
      have hPc := hP.sub (ws' := [(h, .inr (1, [.ref a1, .ref a2, .ref a3, .int 0, .ref a4, .int 0, .ref a5])), (a5, .inl (cT, 4, .inr (.inr (.inr (.inr tf)))))]) [0, 1] rfl
      refine W.callV (W.runV (As := [.int 1]) (rest := []) ⟨hx, hb, hml, hown, hg⟩ (k_X_tableAt l dC dI cJ cI cT h a1 a2 a3 a4 a5 0 0 tf 1) (q_V 1 hg wg_122 wg_120 wg_121 wg_2 wg_13 rfl rfl (by decide +kernel) ⟨Nat.le_of_ble_eq_true rfl, Nat.le_of_ble_eq_true rfl⟩) ⟨wd_blind, va_recv hK hPc (ci := 1) (q0 := 0) rfl rfl, wd_pre (as := .ref h :: [.int 1]) hPc hK⟩ rfl rfl hl.1 rfl (lv_room (Nat.le_of_ble_eq_true rfl)) d_X_clear_19 ⟨Nat.le_of_ble_eq_true rfl, Nat.le_of_ble_eq_true rfl⟩) ?_
      refine W.eq (g2 := F0 m 22 ls (.ref t1 :: [])) (by rw [hf1] <;> rfl) ?_
      refine lv_astore_n (lv' := [(2, .ref t1), (1, .int 1), (0, .ref h)]) hx hb d_X_clear_22 rfl hl (by decide) rfl (fun ls hl => ?_)
      refine lv_aload_n hx hb d_X_clear_23 rfl (lv_at hl 0 rfl) ?_
      refine lv_ifnull hx hb d_X_clear_24 ?_
      refine lv_aload_n hx hb d_X_clear_27 rfl (lv_at hl 0 rfl) ?_
      refine lv_iconst (v := 0) hx hb d_X_clear_28 (by decide) ?_
      refine va_putN (D := (dC, dI)) (ci := 0) (v := .int 0) (ty := .int) (C := R_T) (T := F_T) (N := 4) hx hb hg in_T tt_T tt_T_ok nn_T hown hK hP hD hS 3 rfl rfl 3 (by decide) (va_Nw.use rfl (hN _ nw_4)) (fun _ h9 => h9) rfl (by decide +kernel) rfl rfl (Nat.le_of_ble_eq_true rfl) d_X_clear_29 (fun H locs hP hD hS => ?_)
      have hP : va_P (dC, dI) classes [(h, .inr (1, [.ref a1, .ref a2, .ref a3, .int 0, .ref a4, .int 0, .ref a5])), (a5, .inl (cT, 4, .inr (.inr (.inr (.inr tf))))), (t0, .inr (0, [.ref x0, .ref y0, .long b0, .int 0])), (t1, .inr (0, [.ref x1, .ref y1, .long b1, .int 0])), (t2, .inr (0, [.ref x2, .ref y2, .long b2, .int c2])), (t3, .inr (0, [.ref x3, .ref y3, .long b3, .int c3]))] H := hP
      have hD : va_D A [(h, .inr (1, [.ref a1, .ref a2, .ref a3, .int 0, .ref a4, .int 0, .ref a5])), (a5, .inl (cT, 4, .inr (.inr (.inr (.inr tf))))), (t0, .inr (0, [.ref x0, .ref y0, .long b0, .int 0])), (t1, .inr (0, [.ref x1, .ref y1, .long b1, .int 0])), (t2, .inr (0, [.ref x2, .ref y2, .long b2, .int c2])), (t3, .inr (0, [.ref x3, .ref y3, .long b3, .int c3]))] := hD
      refine lv_iinc (v := 2) (lv' := [(1, .int 2), (2, .ref t1), (0, .ref h)]) hx hb d_X_clear_32 hl (k := 1) rfl (by decide) (by decide) rfl (fun ls hl => ?_)
      refine lv_goto (tgt := 12) hx hb d_X_clear_35 (by decide) ?_
      refine lv_iload_n hx hb d_X_clear_12 rfl (lv_at hl 0 rfl) ?_
      refine lv_iconst (v := 4) hx hb d_X_clear_13 (by decide) ?_
      refine lv_icmp_ge (tgt := 38) hx hb d_X_clear_14 (by decide) (fun c_3 => ?_) (fun c_3 => ?_)
      · skip
        exact absurd c_3 (by decide)
      · skip
        refine lv_aload_n hx hb d_X_clear_17 rfl (lv_at hl 2 rfl) ?_
        refine lv_iload_n hx hb d_X_clear_18 rfl (lv_at hl 0 rfl) ?_
        have hPc := hP.sub (ws' := [(h, .inr (1, [.ref a1, .ref a2, .ref a3, .int 0, .ref a4, .int 0, .ref a5])), (a5, .inl (cT, 4, .inr (.inr (.inr (.inr tf)))))]) [0, 1] rfl
        refine W.callV (W.runV (As := [.int 2]) (rest := []) ⟨hx, hb, hml, hown, hg⟩ (k_X_tableAt l dC dI cJ cI cT h a1 a2 a3 a4 a5 0 0 tf 2) (q_V 1 hg wg_122 wg_120 wg_121 wg_2 wg_13 rfl rfl (by decide +kernel) ⟨Nat.le_of_ble_eq_true rfl, Nat.le_of_ble_eq_true rfl⟩) ⟨wd_blind, va_recv hK hPc (ci := 1) (q0 := 0) rfl rfl, wd_pre (as := .ref h :: [.int 2]) hPc hK⟩ rfl rfl hl.1 rfl (lv_room (Nat.le_of_ble_eq_true rfl)) d_X_clear_19 ⟨Nat.le_of_ble_eq_true rfl, Nat.le_of_ble_eq_true rfl⟩) ?_
        refine W.eq (g2 := F0 m 22 ls (.ref t2 :: [])) (by rw [hf2] <;> rfl) ?_
        refine lv_astore_n (lv' := [(2, .ref t2), (1, .int 2), (0, .ref h)]) hx hb d_X_clear_22 rfl hl (by decide) rfl (fun ls hl => ?_)
        refine lv_aload_n hx hb d_X_clear_23 rfl (lv_at hl 0 rfl) ?_
        refine lv_ifnull hx hb d_X_clear_24 ?_
        refine lv_aload_n hx hb d_X_clear_27 rfl (lv_at hl 0 rfl) ?_
        refine lv_iconst (v := 0) hx hb d_X_clear_28 (by decide) ?_
        refine va_putN (D := (dC, dI)) (ci := 0) (v := .int 0) (ty := .int) (C := R_T) (T := F_T) (N := 4) hx hb hg in_T tt_T tt_T_ok nn_T hown hK hP hD hS 4 rfl rfl 3 (by decide) (va_Nw.use rfl (hN _ nw_4)) (fun _ h9 => h9) rfl (by decide +kernel) rfl rfl (Nat.le_of_ble_eq_true rfl) d_X_clear_29 (fun H locs hP hD hS => ?_)
        have hP : va_P (dC, dI) classes [(h, .inr (1, [.ref a1, .ref a2, .ref a3, .int 0, .ref a4, .int 0, .ref a5])), (a5, .inl (cT, 4, .inr (.inr (.inr (.inr tf))))), (t0, .inr (0, [.ref x0, .ref y0, .long b0, .int 0])), (t1, .inr (0, [.ref x1, .ref y1, .long b1, .int 0])), (t2, .inr (0, [.ref x2, .ref y2, .long b2, .int 0])), (t3, .inr (0, [.ref x3, .ref y3, .long b3, .int c3]))] H := hP
        have hD : va_D A [(h, .inr (1, [.ref a1, .ref a2, .ref a3, .int 0, .ref a4, .int 0, .ref a5])), (a5, .inl (cT, 4, .inr (.inr (.inr (.inr tf))))), (t0, .inr (0, [.ref x0, .ref y0, .long b0, .int 0])), (t1, .inr (0, [.ref x1, .ref y1, .long b1, .int 0])), (t2, .inr (0, [.ref x2, .ref y2, .long b2, .int 0])), (t3, .inr (0, [.ref x3, .ref y3, .long b3, .int c3]))] := hD
        refine lv_iinc (v := 3) (lv' := [(1, .int 3), (2, .ref t2), (0, .ref h)]) hx hb d_X_clear_32 hl (k := 1) rfl (by decide) (by decide) rfl (fun ls hl => ?_)
        refine lv_goto (tgt := 12) hx hb d_X_clear_35 (by decide) ?_
        refine lv_iload_n hx hb d_X_clear_12 rfl (lv_at hl 0 rfl) ?_
        refine lv_iconst (v := 4) hx hb d_X_clear_13 (by decide) ?_
        refine lv_icmp_ge (tgt := 38) hx hb d_X_clear_14 (by decide) (fun c_4 => ?_) (fun c_4 => ?_)
        · skip
          exact absurd c_4 (by decide)
        · skip
          refine lv_aload_n hx hb d_X_clear_17 rfl (lv_at hl 2 rfl) ?_
          refine lv_iload_n hx hb d_X_clear_18 rfl (lv_at hl 0 rfl) ?_
          have hPc := hP.sub (ws' := [(h, .inr (1, [.ref a1, .ref a2, .ref a3, .int 0, .ref a4, .int 0, .ref a5])), (a5, .inl (cT, 4, .inr (.inr (.inr (.inr tf)))))]) [0, 1] rfl
          refine W.callV (W.runV (As := [.int 3]) (rest := []) ⟨hx, hb, hml, hown, hg⟩ (k_X_tableAt l dC dI cJ cI cT h a1 a2 a3 a4 a5 0 0 tf 3) (q_V 1 hg wg_122 wg_120 wg_121 wg_2 wg_13 rfl rfl (by decide +kernel) ⟨Nat.le_of_ble_eq_true rfl, Nat.le_of_ble_eq_true rfl⟩) ⟨wd_blind, va_recv hK hPc (ci := 1) (q0 := 0) rfl rfl, wd_pre (as := .ref h :: [.int 3]) hPc hK⟩ rfl rfl hl.1 rfl (lv_room (Nat.le_of_ble_eq_true rfl)) d_X_clear_19 ⟨Nat.le_of_ble_eq_true rfl, Nat.le_of_ble_eq_true rfl⟩) ?_
          refine W.eq (g2 := F0 m 22 ls (.ref t3 :: [])) (by rw [hf3] <;> rfl) ?_
          refine lv_astore_n (lv' := [(2, .ref t3), (1, .int 3), (0, .ref h)]) hx hb d_X_clear_22 rfl hl (by decide) rfl (fun ls hl => ?_)
          refine lv_aload_n hx hb d_X_clear_23 rfl (lv_at hl 0 rfl) ?_
          refine lv_ifnull hx hb d_X_clear_24 ?_
          refine lv_aload_n hx hb d_X_clear_27 rfl (lv_at hl 0 rfl) ?_
          refine lv_iconst (v := 0) hx hb d_X_clear_28 (by decide) ?_
          refine va_putN (D := (dC, dI)) (ci := 0) (v := .int 0) (ty := .int) (C := R_T) (T := F_T) (N := 4) hx hb hg in_T tt_T tt_T_ok nn_T hown hK hP hD hS 5 rfl rfl 3 (by decide) (va_Nw.use rfl (hN _ nw_4)) (fun _ h9 => h9) rfl (by decide +kernel) rfl rfl (Nat.le_of_ble_eq_true rfl) d_X_clear_29 (fun H locs hP hD hS => ?_)
          have hP : va_P (dC, dI) classes [(h, .inr (1, [.ref a1, .ref a2, .ref a3, .int 0, .ref a4, .int 0, .ref a5])), (a5, .inl (cT, 4, .inr (.inr (.inr (.inr tf))))), (t0, .inr (0, [.ref x0, .ref y0, .long b0, .int 0])), (t1, .inr (0, [.ref x1, .ref y1, .long b1, .int 0])), (t2, .inr (0, [.ref x2, .ref y2, .long b2, .int 0])), (t3, .inr (0, [.ref x3, .ref y3, .long b3, .int 0]))] H := hP
          have hD : va_D A [(h, .inr (1, [.ref a1, .ref a2, .ref a3, .int 0, .ref a4, .int 0, .ref a5])), (a5, .inl (cT, 4, .inr (.inr (.inr (.inr tf))))), (t0, .inr (0, [.ref x0, .ref y0, .long b0, .int 0])), (t1, .inr (0, [.ref x1, .ref y1, .long b1, .int 0])), (t2, .inr (0, [.ref x2, .ref y2, .long b2, .int 0])), (t3, .inr (0, [.ref x3, .ref y3, .long b3, .int 0]))] := hD
          refine lv_iinc (v := 4) (lv' := [(1, .int 4), (2, .ref t3), (0, .ref h)]) hx hb d_X_clear_32 hl (k := 1) rfl (by decide) (by decide) rfl (fun ls hl => ?_)
          refine lv_goto (tgt := 12) hx hb d_X_clear_35 (by decide) ?_
          refine lv_iload_n hx hb d_X_clear_12 rfl (lv_at hl 0 rfl) ?_
          refine lv_iconst (v := 4) hx hb d_X_clear_13 (by decide) ?_
          refine lv_icmp_ge (tgt := 38) hx hb d_X_clear_14 (by decide) (fun c_5 => ?_) (fun c_5 => ?_)
          · skip
            have hP9 := hP.sub (ws' := [(h, .inr (1, [.ref a1, .ref a2, .ref a3, .int 0, .ref a4, .int 0, .ref a5])), (a5, .inl (cT, 4, .inr (.inr (.inr (.inr tf))))), (t0, .inr (0, [.ref x0, .ref y0, .long b0, .int 0])), (t1, .inr (0, [.ref x1, .ref y1, .long b1, .int 0])), (t2, .inr (0, [.ref x2, .ref y2, .long b2, .int 0])), (t3, .inr (0, [.ref x3, .ref y3, .long b3, .int 0]))]) [0, 1, 2, 3, 4, 5] rfl
            have hD9 := hD.sub (ws' := [(h, .inr (1, [.ref a1, .ref a2, .ref a3, .int 0, .ref a4, .int 0, .ref a5])), (a5, .inl (cT, 4, .inr (.inr (.inr (.inr tf))))), (t0, .inr (0, [.ref x0, .ref y0, .long b0, .int 0])), (t1, .inr (0, [.ref x1, .ref y1, .long b1, .int 0])), (t2, .inr (0, [.ref x2, .ref y2, .long b2, .int 0])), (t3, .inr (0, [.ref x3, .ref y3, .long b3, .int 0]))]) [0, 1, 2, 3, 4, 5] (by decide) rfl
            exact W.vret hx hb hr (fun t ht hW => ⟨⟨(), rfl, rfl, wb_of ht hW hP9 hK hD9⟩, hS.F ht⟩) hS.2.2 d_X_clear_38
          · skip
            exact absurd (by decide) c_5
