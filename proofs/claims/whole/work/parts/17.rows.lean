def f_X_row (xs ys : Nat → Int64) (tb : Int64) (tc : Int32) (x y b : Int64) : Int32 × (Nat → Int64) × (Nat → Int64) × Int64 × Int32 := if (f_T_takes xs tb tc x y b) = 0 then (0, (xs, ys, tb, tc)) else (1, f_T_append xs ys tb tc x y b)
set_option maxHeartbeats 4000000 in
set_option maxRecDepth 100000 in
theorem k_X_row (l : Launch) (dC : Nat → ClassId) (dI : Nat → Nat → Nat) (cJ cI cT : ClassId) (h a1 a2 a3 a4 a5 : Nat) (n k : Int32) (tf : Nat → Option Nat) (th tx ty : Nat) (tb : Int64) (tc : Int32) (xs ys : Nat → Int64) (tb_ : Int32) (x y b : Int64) (sz : Nat) (hf : f_X_tableAt tf tb_ = some th) (hc0 : 0 ≤ tc.toInt) : Met l y_X_row w_X_row ({ frames := 2, cells := 0, slots := 0, locals := 47 }) (va_Pc [.ref h, .int tb_, .long x, .long y, .long b] (fun U => wx dC dI cJ cI cT sz [(h, .inr (1, [.ref a1, .ref a2, .ref a3, .int n, .ref a4, .int k, .ref a5])), (a5, .inl (cT, 4, .inr (.inr (.inr (.inr tf))))), (th, .inr (0, [.ref tx, .ref ty, .long tb, .int tc])), (tx, .inl (cJ, 16, .inr (.inl xs))), (ty, .inl (cJ, 16, .inr (.inl ys)))] U ∧ nwd U)) (va_Qi (fun (r9 : Int32) (u9 : (Nat → Int64) × (Nat → Int64) × Int64 × Int32) => (r9, u9) = f_X_row xs ys tb tc x y b) (fun u => wb dC dI cJ cI cT (va_A [(h, .inr (1, [.ref a1, .ref a2, .ref a3, .int n, .ref a4, .int k, .ref a5])), (a5, .inl (cT, 4, .inr (.inr (.inr (.inr tf))))), (th, .inr (0, [.ref tx, .ref ty, .long tb, .int tc])), (tx, .inl (cJ, 16, .inr (.inl xs))), (ty, .inl (cJ, 16, .inr (.inl ys)))] sz) [(h, .inr (1, [.ref a1, .ref a2, .ref a3, .int n, .ref a4, .int k, .ref a5])), (a5, .inl (cT, 4, .inr (.inr (.inr (.inr tf))))), (th, .inr (0, [.ref tx, .ref ty, .long u.2.2.1, .int u.2.2.2])), (tx, .inl (cJ, 16, .inr (.inl u.1))), (ty, .inl (cJ, 16, .inr (.inl u.2.1)))]) (va_A [(h, .inr (1, [.ref a1, .ref a2, .ref a3, .int n, .ref a4, .int k, .ref a5])), (a5, .inl (cT, 4, .inr (.inr (.inr (.inr tf))))), (th, .inr (0, [.ref tx, .ref ty, .long tb, .int tc])), (tx, .inl (cJ, 16, .inr (.inl xs))), (ty, .inl (cJ, 16, .inr (.inl ys)))] sz)) 0 0 (va_A [(h, .inr (1, [.ref a1, .ref a2, .ref a3, .int n, .ref a4, .int k, .ref a5])), (a5, .inl (cT, 4, .inr (.inr (.inr (.inr tf))))), (th, .inr (0, [.ref tx, .ref ty, .long tb, .int tc])), (tx, .inl (cJ, 16, .inr (.inl xs))), (ty, .inl (cJ, 16, .inr (.inl ys)))] sz) := by
  refine Met.ofW (cc := c_X_row) (maxL := 9) (ret := (Option.some Jvm.ClassFile.FieldType.boolean)) (by decide) rfl ?_
  intro p e s m args below meth c s₁ B hml hv
  obtain ⟨rfl, ⟨hsz, hP, hK, hD0⟩, hN⟩ := hv
  have hx := B.exec
  have hb := B.bytes
  have hr := B.returns
  have hts := atoms_spec (ws := w_X_row) B.pre
  have hg : ∀ w ∈ WG, w.before _ s = true := fun w h => hts w (List.mem_cons_of_mem _ h)
  have hown : s.vm.findClass R_X = some m.cls := findClass_of_methodNamed B.named
  have hlocks := B.notSynchronized
  have hl := lv_entry ([.ref h, .int tb_, .long x, .long y, .long b]) (n := 9) (Nat.le_of_ble_eq_true rfl)
  rw [lg_entry_eq]
  generalize (lg_sl ([.ref h, .int tb_, .long x, .long y, .long b]) ++ List.replicate (9 - (lg_sl ([.ref h, .int tb_, .long x, .long y, .long b])).length) Slot.unset).toArray = ls at hl ⊢
  have hl : lv_has ls 9 [(0, .ref h), (1, .int tb_), (2, .long x), (4, .long y), (6, .long b)] := hl
  subst hsz
  have hD := hD0.self (sz := s.heap.size)
  generalize hAe : va_A [(h, .inr (1, [.ref a1, .ref a2, .ref a3, .int n, .ref a4, .int k, .ref a5])), (a5, .inl (cT, 4, .inr (.inr (.inr (.inr tf))))), (th, .inr (0, [.ref tx, .ref ty, .long tb, .int tc])), (tx, .inl (cJ, 16, .inr (.inl xs))), (ty, .inl (cJ, 16, .inr (.inl ys)))] s.heap.size = A at hD ⊢
  have hA : ∀ q : Nat, s.heap.size ≤ q → A q := fun q h => by rw [← hAe]; exact Or.inr h
  have hS : va_S A s.heap s.heap [] := va_S.rf
  have hP : va_P (dC, dI) classes [(h, .inr (1, [.ref a1, .ref a2, .ref a3, .int n, .ref a4, .int k, .ref a5])), (a5, .inl (cT, 4, .inr (.inr (.inr (.inr tf))))), (th, .inr (0, [.ref tx, .ref ty, .long tb, .int tc])), (tx, .inl (cJ, 16, .inr (.inl xs))), (ty, .inl (cJ, 16, .inr (.inl ys)))] s.heap := hP
  have hD : va_D A [(h, .inr (1, [.ref a1, .ref a2, .ref a3, .int n, .ref a4, .int k, .ref a5])), (a5, .inl (cT, 4, .inr (.inr (.inr (.inr tf))))), (th, .inr (0, [.ref tx, .ref ty, .long tb, .int tc])), (tx, .inl (cJ, 16, .inr (.inl xs))), (ty, .inl (cJ, 16, .inr (.inl ys)))] := hD
  skip
  refine lv_aload_n hx hb d_X_row_0 rfl (lv_at hl 0 rfl) ?_
  refine lv_iload_n hx hb d_X_row_1 rfl (lv_at hl 1 rfl) ?_
  have hPc := hP.sub (ws' := [(h, .inr (1, [.ref a1, .ref a2, .ref a3, .int n, .ref a4, .int k, .ref a5])), (a5, .inl (cT, 4, .inr (.inr (.inr (.inr tf)))))]) [0, 1] rfl
  refine W.callV (W.runV (As := [.int tb_]) (rest := []) ⟨hx, hb, hml, hown, hg⟩ (k_X_tableAt l dC dI cJ cI cT h a1 a2 a3 a4 a5 n k tf tb_) (q_V 1 hg wg_122 wg_120 wg_121 wg_2 wg_13 rfl rfl (by decide +kernel) ⟨Nat.le_of_ble_eq_true rfl, Nat.le_of_ble_eq_true rfl⟩) ⟨wd_blind, va_recv hK hPc (ci := 1) (q0 := 0) rfl rfl, wd_pre (as := .ref h :: [.int tb_]) hPc hK⟩ rfl rfl hl.1 rfl (lv_room (Nat.le_of_ble_eq_true rfl)) d_X_row_2 ⟨Nat.le_of_ble_eq_true rfl, Nat.le_of_ble_eq_true rfl⟩) ?_
  refine W.eq (g2 := F0 m 5 ls (.ref th :: [])) (by rw [hf] <;> rfl) ?_
  refine lv_astore (lv' := [(8, .ref th), (0, .ref h), (1, .int tb_), (2, .long x), (4, .long y), (6, .long b)]) hx hb d_X_row_5 hl (by decide) rfl (fun ls hl => ?_)
  refine lv_aload hx hb d_X_row_7 (lv_at hl 0 rfl) ?_
  refine lv_ifnull hx hb d_X_row_9 ?_
  refine lv_aload hx hb d_X_row_12 (lv_at hl 0 rfl) ?_
  refine lv_lload_n hx hb d_X_row_14 rfl (lv_at hl 3 rfl) ?_
  refine lv_lload hx hb d_X_row_15 (lv_at hl 4 rfl) ?_
  refine lv_lload hx hb d_X_row_17 (lv_at hl 5 rfl) ?_
  have hPc := hP.sub (ws' := [(th, .inr (0, [.ref tx, .ref ty, .long tb, .int tc])), (tx, .inl (cJ, 16, .inr (.inl xs)))]) [2, 3] rfl
  refine W.callV (va_Run.run (va_runVN (As := [.long x, .long y, .long b]) (rest := []) ⟨hx, hb, hml, hown, hg⟩ (k_T_takes l dC dI cJ cI cT th tx ty tb tc xs x y b hc0) ⟨q_N 3 hg wg_124 (hN _ nw_5) wg_14 rfl rfl (by decide +kernel) ⟨Nat.le_of_ble_eq_true rfl, Nat.le_of_ble_eq_true rfl⟩, hg _ wg_123, hg _ wg_3⟩ ⟨wd_blind, va_recv hK hPc (ci := 0) (q0 := 0) rfl rfl, wd_pre (as := .ref th :: [.long x, .long y, .long b]) hPc hK⟩ rfl rfl hl.1 rfl (lv_room (Nat.le_of_ble_eq_true rfl)) d_X_row_19 ⟨Nat.le_of_ble_eq_true rfl, Nat.le_of_ble_eq_true rfl⟩)) ?_
  refine W.eq (g2 := F0 m 22 ls (.int (f_T_takes xs tb tc x y b) :: [])) rfl ?_
  refine lv_if_ne (tgt := 27) hx hb d_X_row_22 (by decide) (fun c_1 => ?_) (fun c_1 => ?_)
  · skip
    refine lv_aload hx hb d_X_row_27 (lv_at hl 0 rfl) ?_
    refine lv_lload_n hx hb d_X_row_29 rfl (lv_at hl 3 rfl) ?_
    refine lv_lload hx hb d_X_row_30 (lv_at hl 4 rfl) ?_
    refine lv_lload hx hb d_X_row_32 (lv_at hl 5 rfl) ?_
    have hPc := hP.sub (ws' := [(th, .inr (0, [.ref tx, .ref ty, .long tb, .int tc])), (tx, .inl (cJ, 16, .inr (.inl xs))), (ty, .inl (cJ, 16, .inr (.inl ys)))]) [2, 3, 4] rfl
    have hDc := hD.sub (ws' := [(th, .inr (0, [.ref tx, .ref ty, .long tb, .int tc])), (tx, .inl (cJ, 16, .inr (.inl xs))), (ty, .inl (cJ, 16, .inr (.inl ys)))]) [2, 3, 4] (by decide) rfl
    have hFc := va_free (wc := [(th, .inr (0, [.ref tx, .ref ty, .long tb, .int tc])), (tx, .inl (cJ, 16, .inr (.inl xs))), (ty, .inl (cJ, 16, .inr (.inl ys)))]) hD hS hA [2, 3, 4] rfl
    refine va_callv (va_runVN (As := [.long x, .long y, .long b]) (rest := []) ⟨hx, hb, hml, hown, hg⟩ (k_T_append l dC dI cJ cI cT th tx ty tb tc xs ys x y b _ hc0) ⟨q_N 3 hg wg_132 (hN _ nw_6) wg_14 rfl rfl (by decide +kernel) ⟨Nat.le_of_ble_eq_true rfl, Nat.le_of_ble_eq_true rfl⟩, hg _ wg_131, hg _ wg_4⟩ ⟨wx_blind, va_recv hK hPc (ci := 0) (q0 := 0) rfl rfl, wx_pre (as := .ref th :: [.long x, .long y, .long b]) hPc hK hDc⟩ rfl rfl hl.1 rfl (lv_room (Nat.le_of_ble_eq_true rfl)) d_X_row_34 ⟨Nat.le_of_ble_eq_true rfl, Nat.le_of_ble_eq_true rfl⟩) hS (fun q _ h => hFc q h) hFc (fun u t H1 locs ht hvm hw_7 hB hz1 hk1 hS => ?_)
    obtain ⟨xs_2, ys_3, tb_4, tc_5⟩ := u
    obtain ⟨hP1, hK1, hD1⟩ := hB
    rw [ht] at hP1
    obtain ⟨hP, hD⟩ := va_join (wr := [(h, .inr (1, [.ref a1, .ref a2, .ref a3, .int n, .ref a4, .int k, .ref a5])), (a5, .inl (cT, 4, .inr (.inr (.inr (.inr tf)))))]) (w1 := [(th, .inr (0, [.ref tx, .ref ty, .long tb_4, .int tc_5])), (tx, .inl (cJ, 16, .inr (.inl xs_2))), (ty, .inl (cJ, 16, .inr (.inl ys_3)))]) hP hD [2, 3, 4] [0, 1] rfl rfl (by decide) (by decide) hk1 hFc hP1 hD1
    generalize H1 = H at hP hS ⊢
    have hP : va_P (dC, dI) classes [(h, .inr (1, [.ref a1, .ref a2, .ref a3, .int n, .ref a4, .int k, .ref a5])), (a5, .inl (cT, 4, .inr (.inr (.inr (.inr tf))))), (th, .inr (0, [.ref tx, .ref ty, .long tb_4, .int tc_5])), (tx, .inl (cJ, 16, .inr (.inl xs_2))), (ty, .inl (cJ, 16, .inr (.inl ys_3)))] H := hP
    have hD : va_D A [(h, .inr (1, [.ref a1, .ref a2, .ref a3, .int n, .ref a4, .int k, .ref a5])), (a5, .inl (cT, 4, .inr (.inr (.inr (.inr tf))))), (th, .inr (0, [.ref tx, .ref ty, .long tb_4, .int tc_5])), (tx, .inl (cJ, 16, .inr (.inl xs_2))), (ty, .inl (cJ, 16, .inr (.inl ys_3)))] := hD
    refine lv_iconst (v := 1) hx hb d_X_row_37 (by decide) ?_
    have hP9 := hP.sub (ws' := [(h, .inr (1, [.ref a1, .ref a2, .ref a3, .int n, .ref a4, .int k, .ref a5])), (a5, .inl (cT, 4, .inr (.inr (.inr (.inr tf))))), (th, .inr (0, [.ref tx, .ref ty, .long tb_4, .int tc_5])), (tx, .inl (cJ, 16, .inr (.inl xs_2))), (ty, .inl (cJ, 16, .inr (.inl ys_3)))]) [0, 1, 2, 3, 4] rfl
    have hD9 := hD.sub (ws' := [(h, .inr (1, [.ref a1, .ref a2, .ref a3, .int n, .ref a4, .int k, .ref a5])), (a5, .inl (cT, 4, .inr (.inr (.inr (.inr tf))))), (th, .inr (0, [.ref tx, .ref ty, .long tb_4, .int tc_5])), (tx, .inl (cJ, 16, .inr (.inl xs_2))), (ty, .inl (cJ, 16, .inr (.inl ys_3)))]) [0, 1, 2, 3, 4] (by decide) rfl
    have hz : (1, (xs_2, ys_3, tb_4, tc_5)) = f_X_row xs ys tb tc x y b := by unfold f_X_row; rw [if_neg c_1]; rw [hw_7]
    exact W.zret (v := 1) hx hb hr rfl (fun t ht hW => ⟨⟨1, (xs_2, ys_3, tb_4, tc_5), rfl, hz, wb_of ht hW hP9 hK hD9⟩, hS.F ht⟩) hS.2.2 d_X_row_38
  · skip
    refine lv_iconst (v := 0) hx hb d_X_row_25 (by decide) ?_
    have hP9 := hP.sub (ws' := [(h, .inr (1, [.ref a1, .ref a2, .ref a3, .int n, .ref a4, .int k, .ref a5])), (a5, .inl (cT, 4, .inr (.inr (.inr (.inr tf))))), (th, .inr (0, [.ref tx, .ref ty, .long tb, .int tc])), (tx, .inl (cJ, 16, .inr (.inl xs))), (ty, .inl (cJ, 16, .inr (.inl ys)))]) [0, 1, 2, 3, 4] rfl
    have hD9 := hD.sub (ws' := [(h, .inr (1, [.ref a1, .ref a2, .ref a3, .int n, .ref a4, .int k, .ref a5])), (a5, .inl (cT, 4, .inr (.inr (.inr (.inr tf))))), (th, .inr (0, [.ref tx, .ref ty, .long tb, .int tc])), (tx, .inl (cJ, 16, .inr (.inl xs))), (ty, .inl (cJ, 16, .inr (.inl ys)))]) [0, 1, 2, 3, 4] (by decide) rfl
    have hz : (0, (xs, ys, tb, tc)) = f_X_row xs ys tb tc x y b := by unfold f_X_row; rw [if_pos c_1]
    exact W.zret (v := 0) hx hb hr rfl (fun t ht hW => ⟨⟨0, (xs, ys, tb, tc), rfl, hz, wb_of ht hW hP9 hK hD9⟩, hS.F ht⟩) hS.2.2 d_X_row_26
set_option maxHeartbeats 4000000 in
set_option maxRecDepth 100000 in
theorem k_X_row_out (l : Launch) (dC : Nat → ClassId) (dI : Nat → Nat → Nat) (cJ cI cT : ClassId) (h a1 a2 a3 a4 a5 : Nat) (n k : Int32) (tf : Nat → Option Nat) (tb_ : Int32) (x y b : Int64) (hf : f_X_tableAt tf tb_ = none) : Met l y_X_row w_X_row ({ frames := 1, cells := 0, slots := 0, locals := 21 }) (va_Pc [.ref h, .int tb_, .long x, .long y, .long b] (wd dC dI cJ cI cT [(h, .inr (1, [.ref a1, .ref a2, .ref a3, .int n, .ref a4, .int k, .ref a5])), (a5, .inl (cT, 4, .inr (.inr (.inr (.inr tf)))))])) (k2_QcV (.int ((0 : Int32)))) 0 0 (fun _ => False) := by
  refine Met.ofW (cc := c_X_row) (maxL := 9) (ret := (Option.some Jvm.ClassFile.FieldType.boolean)) (by decide) rfl ?_
  intro p e s m args below meth c s₁ B hml hv
  obtain ⟨rfl, hP, hK⟩ := hv
  have hx := B.exec
  have hb := B.bytes
  have hr := B.returns
  have hts := atoms_spec (ws := w_X_row) B.pre
  have hg : ∀ w ∈ WG, w.before _ s = true := fun w h => hts w (List.mem_cons_of_mem _ h)
  have hown : s.vm.findClass R_X = some m.cls := findClass_of_methodNamed B.named
  have hlocks := B.notSynchronized
  have hl := lv_entry ([.ref h, .int tb_, .long x, .long y, .long b]) (n := 9) (Nat.le_of_ble_eq_true rfl)
  rw [lg_entry_eq]
  generalize (lg_sl ([.ref h, .int tb_, .long x, .long y, .long b]) ++ List.replicate (9 - (lg_sl ([.ref h, .int tb_, .long x, .long y, .long b])).length) Slot.unset).toArray = ls at hl ⊢
  have hl : lv_has ls 9 [(0, .ref h), (1, .int tb_), (2, .long x), (4, .long y), (6, .long b)] := hl
  have hP : va_P (dC, dI) classes [(h, .inr (1, [.ref a1, .ref a2, .ref a3, .int n, .ref a4, .int k, .ref a5])), (a5, .inl (cT, 4, .inr (.inr (.inr (.inr tf)))))] s.heap := hP
  refine lv_aload_n hx hb d_X_row_0 rfl (lv_at hl 0 rfl) ?_
  refine lv_iload_n hx hb d_X_row_1 rfl (lv_at hl 1 rfl) ?_
  have hPc := hP.sub (ws' := [(h, .inr (1, [.ref a1, .ref a2, .ref a3, .int n, .ref a4, .int k, .ref a5])), (a5, .inl (cT, 4, .inr (.inr (.inr (.inr tf)))))]) [0, 1] rfl
  refine W.callV (W.runV (As := [.int tb_]) (rest := []) ⟨hx, hb, hml, hown, hg⟩ (k_X_tableAt l dC dI cJ cI cT h a1 a2 a3 a4 a5 n k tf tb_) (q_V 1 hg wg_122 wg_120 wg_121 wg_2 wg_13 rfl rfl (by decide +kernel) ⟨Nat.le_of_ble_eq_true rfl, Nat.le_of_ble_eq_true rfl⟩) ⟨wd_blind, va_recv hK hPc (ci := 1) (q0 := 0) rfl rfl, wd_pre (as := .ref h :: [.int tb_]) hPc hK⟩ rfl rfl hl.1 rfl (lv_room (Nat.le_of_ble_eq_true rfl)) d_X_row_2 ⟨Nat.le_of_ble_eq_true rfl, Nat.le_of_ble_eq_true rfl⟩) ?_
  refine W.eq (g2 := F0 m 5 ls (.null :: [])) (by rw [hf] <;> rfl) ?_
  refine lv_astoreN (lv' := [(8, .null), (0, .ref h), (1, .int tb_), (2, .long x), (4, .long y), (6, .long b)]) hx hb d_X_row_5 hl (by decide) rfl (fun ls hl => ?_)
  refine lv_aloadN hx hb d_X_row_7 (lv_at hl 0 rfl) ?_
  refine lv_ifnullN (tgt := 25) hx hb d_X_row_9 (by decide) ?_
  refine lv_iconst (v := 0) hx hb d_X_row_25 (by decide) ?_
  exact W.zret hx hb hr rfl (fun t ht _ => ⟨rfl, ht⟩) (fun _ h => by cases h) d_X_row_26
def f_X_keepBetween (ab be : Nat → Int64) (un : Nat → Int32) (n : Int32) (tb : Int64) (xs ys : Nat → Int64) (nx a : Int32) : Int32 × (Nat → Int64) × (Nat → Int64) × (Nat → Int32) × Int32 := (f_X_keep ab be un n ((((ys (nx - 1).toNatClampNeg) * ((xs nx.toNatClampNeg) - (xs (nx - 1).toNatClampNeg))) * (be a.toNatClampNeg)) + (((ys nx.toNatClampNeg) - (ys (nx - 1).toNatClampNeg)) * (((ab a.toNatClampNeg) * tb) - ((xs (nx - 1).toNatClampNeg) * (be a.toNatClampNeg))))) ((((xs nx.toNatClampNeg) - (xs (nx - 1).toNatClampNeg)) * (be a.toNatClampNeg)) * tb) 0)
set_option maxHeartbeats 4000000 in
set_option maxRecDepth 100000 in
theorem k_X_keepBetween (l : Launch) (dC : Nat → ClassId) (dI : Nat → Nat → Nat) (cJ cI cT : ClassId) (h a1 a2 a3 a4 a5 : Nat) (n k : Int32) (ab be : Nat → Int64) (un : Nat → Int32) (th tx ty : Nat) (tb : Int64) (tc : Int32) (xs ys : Nat → Int64) (nx a : Int32) (sz : Nat) (hn0 : 0 ≤ n.toInt) (ha : vp_in a 500) (hx1 : vp_in nx 16) (hx2 : vp_in (nx - 1) 16) : Met l y_X_keepBetween w_X_keepBetween ({ frames := 3, cells := 0, slots := 0, locals := 84 }) (va_Pc [.ref h, .ref th, .int nx, .int a] (fun U => wx dC dI cJ cI cT sz [(h, .inr (1, [.ref a1, .ref a2, .ref a3, .int n, .ref a4, .int k, .ref a5])), (a1, .inl (cJ, 500, .inr (.inl ab))), (a2, .inl (cJ, 500, .inr (.inl be))), (a3, .inl (cI, 500, .inl un)), (th, .inr (0, [.ref tx, .ref ty, .long tb, .int tc])), (tx, .inl (cJ, 16, .inr (.inl xs))), (ty, .inl (cJ, 16, .inr (.inl ys)))] U ∧ nwd U)) (va_Qi (fun (r9 : Int32) (u9 : (Nat → Int64) × (Nat → Int64) × (Nat → Int32) × Int32) => (r9, u9) = f_X_keepBetween ab be un n tb xs ys nx a) (fun u => wb dC dI cJ cI cT (va_A [(h, .inr (1, [.ref a1, .ref a2, .ref a3, .int n, .ref a4, .int k, .ref a5])), (a1, .inl (cJ, 500, .inr (.inl ab))), (a2, .inl (cJ, 500, .inr (.inl be))), (a3, .inl (cI, 500, .inl un)), (th, .inr (0, [.ref tx, .ref ty, .long tb, .int tc])), (tx, .inl (cJ, 16, .inr (.inl xs))), (ty, .inl (cJ, 16, .inr (.inl ys)))] sz) [(h, .inr (1, [.ref a1, .ref a2, .ref a3, .int u.2.2.2, .ref a4, .int k, .ref a5])), (a1, .inl (cJ, 500, .inr (.inl u.1))), (a2, .inl (cJ, 500, .inr (.inl u.2.1))), (a3, .inl (cI, 500, .inl u.2.2.1)), (th, .inr (0, [.ref tx, .ref ty, .long tb, .int tc])), (tx, .inl (cJ, 16, .inr (.inl xs))), (ty, .inl (cJ, 16, .inr (.inl ys)))]) (va_A [(h, .inr (1, [.ref a1, .ref a2, .ref a3, .int n, .ref a4, .int k, .ref a5])), (a1, .inl (cJ, 500, .inr (.inl ab))), (a2, .inl (cJ, 500, .inr (.inl be))), (a3, .inl (cI, 500, .inl un)), (th, .inr (0, [.ref tx, .ref ty, .long tb, .int tc])), (tx, .inl (cJ, 16, .inr (.inl xs))), (ty, .inl (cJ, 16, .inr (.inl ys)))] sz)) 0 0 (va_A [(h, .inr (1, [.ref a1, .ref a2, .ref a3, .int n, .ref a4, .int k, .ref a5])), (a1, .inl (cJ, 500, .inr (.inl ab))), (a2, .inl (cJ, 500, .inr (.inl be))), (a3, .inl (cI, 500, .inl un)), (th, .inr (0, [.ref tx, .ref ty, .long tb, .int tc])), (tx, .inl (cJ, 16, .inr (.inl xs))), (ty, .inl (cJ, 16, .inr (.inl ys)))] sz) := by
  refine Met.ofW (cc := c_X_keepBetween) (maxL := 12) (ret := (Option.some Jvm.ClassFile.FieldType.int)) (by decide) rfl ?_
  intro p e s m args below meth c s₁ B hml hv
  obtain ⟨rfl, ⟨hsz, hP, hK, hD0⟩, hN⟩ := hv
  have hx := B.exec
  have hb := B.bytes
  have hr := B.returns
  have hts := atoms_spec (ws := w_X_keepBetween) B.pre
  have hg : ∀ w ∈ WG, w.before _ s = true := fun w h => hts w (List.mem_cons_of_mem _ h)
  have hown : s.vm.findClass R_X = some m.cls := findClass_of_methodNamed B.named
  have hlocks := B.notSynchronized
  have hl := lv_entry ([.ref h, .ref th, .int nx, .int a]) (n := 12) (Nat.le_of_ble_eq_true rfl)
  rw [lg_entry_eq]
  generalize (lg_sl ([.ref h, .ref th, .int nx, .int a]) ++ List.replicate (12 - (lg_sl ([.ref h, .ref th, .int nx, .int a])).length) Slot.unset).toArray = ls at hl ⊢
  have hl : lv_has ls 12 [(0, .ref h), (1, .ref th), (2, .int nx), (3, .int a)] := hl
  subst hsz
  have hD := hD0.self (sz := s.heap.size)
  generalize hAe : va_A [(h, .inr (1, [.ref a1, .ref a2, .ref a3, .int n, .ref a4, .int k, .ref a5])), (a1, .inl (cJ, 500, .inr (.inl ab))), (a2, .inl (cJ, 500, .inr (.inl be))), (a3, .inl (cI, 500, .inl un)), (th, .inr (0, [.ref tx, .ref ty, .long tb, .int tc])), (tx, .inl (cJ, 16, .inr (.inl xs))), (ty, .inl (cJ, 16, .inr (.inl ys)))] s.heap.size = A at hD ⊢
  have hA : ∀ q : Nat, s.heap.size ≤ q → A q := fun q h => by rw [← hAe]; exact Or.inr h
  have hS : va_S A s.heap s.heap [] := va_S.rf
  have hP : va_P (dC, dI) classes [(h, .inr (1, [.ref a1, .ref a2, .ref a3, .int n, .ref a4, .int k, .ref a5])), (a1, .inl (cJ, 500, .inr (.inl ab))), (a2, .inl (cJ, 500, .inr (.inl be))), (a3, .inl (cI, 500, .inl un)), (th, .inr (0, [.ref tx, .ref ty, .long tb, .int tc])), (tx, .inl (cJ, 16, .inr (.inl xs))), (ty, .inl (cJ, 16, .inr (.inl ys)))] s.heap := hP
  have hD : va_D A [(h, .inr (1, [.ref a1, .ref a2, .ref a3, .int n, .ref a4, .int k, .ref a5])), (a1, .inl (cJ, 500, .inr (.inl ab))), (a2, .inl (cJ, 500, .inr (.inl be))), (a3, .inl (cI, 500, .inl un)), (th, .inr (0, [.ref tx, .ref ty, .long tb, .int tc])), (tx, .inl (cJ, 16, .inr (.inl xs))), (ty, .inl (cJ, 16, .inr (.inl ys)))] := hD
  skip
  refine lv_aload_n hx hb d_X_keepBetween_0 rfl (lv_at hl 1 rfl) ?_
  refine va_getN (D := (dC, dI)) (ci := 0) (v := .ref tx) (C := R_T) (T := F_T) (N := 4) hx hb hg in_T hown hK hP 4 rfl rfl 0 (by decide) (va_Nw.use rfl (hN _ nw_1)) (fun _ h9 => h9) rfl d_X_keepBetween_1 ?_
  refine lv_iload_n hx hb d_X_keepBetween_4 rfl (lv_at hl 2 rfl) ?_
  refine va_lald hx hb hK hP 5 0 rfl rfl hx1 d_X_keepBetween_5 ?_
  refine lv_aload_n hx hb d_X_keepBetween_6 rfl (lv_at hl 1 rfl) ?_
  refine va_getN (D := (dC, dI)) (ci := 0) (v := .ref tx) (C := R_T) (T := F_T) (N := 4) hx hb hg in_T hown hK hP 4 rfl rfl 0 (by decide) (va_Nw.use rfl (hN _ nw_1)) (fun _ h9 => h9) rfl d_X_keepBetween_7 ?_
  refine lv_iload_n hx hb d_X_keepBetween_10 rfl (lv_at hl 2 rfl) ?_
  refine lv_iconst (v := 1) hx hb d_X_keepBetween_11 (by decide) ?_
  refine lv_isub hx hb d_X_keepBetween_12 ?_
  refine lv_topi (fun i_1 ei_1 => ?_)
  refine va_lald hx hb hK hP 5 0 rfl rfl (by rw [ei_1]; exact hx2) d_X_keepBetween_13 ?_
  refine lv_lsub hx hb d_X_keepBetween_14 ?_
  refine lv_topl (fun v_2 ev_2 => ?_)
  refine lv_lstore (lv' := [(4, .long v_2), (0, .ref h), (1, .ref th), (2, .int nx), (3, .int a)]) hx hb d_X_keepBetween_15 hl (by decide) rfl (fun ls hl => ?_)
  refine lv_aload_n hx hb d_X_keepBetween_17 rfl (lv_at hl 2 rfl) ?_
  refine va_getN (D := (dC, dI)) (ci := 0) (v := .ref ty) (C := R_T) (T := F_T) (N := 4) hx hb hg in_T hown hK hP 4 rfl rfl 1 (by decide) (va_Nw.use rfl (hN _ nw_2)) (fun _ h9 => h9) rfl d_X_keepBetween_18 ?_
  refine lv_iload_n hx hb d_X_keepBetween_21 rfl (lv_at hl 3 rfl) ?_
  refine va_lald hx hb hK hP 6 0 rfl rfl hx1 d_X_keepBetween_22 ?_
  refine lv_aload_n hx hb d_X_keepBetween_23 rfl (lv_at hl 2 rfl) ?_
  refine va_getN (D := (dC, dI)) (ci := 0) (v := .ref ty) (C := R_T) (T := F_T) (N := 4) hx hb hg in_T hown hK hP 4 rfl rfl 1 (by decide) (va_Nw.use rfl (hN _ nw_2)) (fun _ h9 => h9) rfl d_X_keepBetween_24 ?_
  refine lv_iload_n hx hb d_X_keepBetween_27 rfl (lv_at hl 3 rfl) ?_
  refine lv_iconst (v := 1) hx hb d_X_keepBetween_28 (by decide) ?_
  refine lv_isub hx hb d_X_keepBetween_29 ?_
  refine lv_topi (fun i_3 ei_3 => ?_)
  refine va_lald hx hb hK hP 6 0 rfl rfl (by rw [ei_3]; exact hx2) d_X_keepBetween_30 ?_
  refine lv_lsub hx hb d_X_keepBetween_31 ?_
  refine lv_topl (fun v_4 ev_4 => ?_)
  refine lv_lstore (lv' := [(6, .long v_4), (4, .long v_2), (0, .ref h), (1, .ref th), (2, .int nx), (3, .int a)]) hx hb d_X_keepBetween_32 hl (by decide) rfl (fun ls hl => ?_)
  refine lv_aload_n hx hb d_X_keepBetween_34 rfl (lv_at hl 2 rfl) ?_
  refine va_get (D := (dC, dI)) (ci := 1) (v := .ref a1) (C := R_X) (T := F_X) (N := 7) hx hb hg in_X hown hK hP 0 rfl rfl 0 (by decide) (hg _ wg_46) (fun _ h9 => h9) rfl d_X_keepBetween_35 ?_
  refine lv_iload_n hx hb d_X_keepBetween_38 rfl (lv_at hl 5 rfl) ?_
  refine va_lald hx hb hK hP 1 0 rfl rfl ha d_X_keepBetween_39 ?_
  refine lv_aload_n hx hb d_X_keepBetween_40 rfl (lv_at hl 3 rfl) ?_
  refine va_getN (D := (dC, dI)) (ci := 0) (v := .long tb) (C := R_T) (T := F_T) (N := 4) hx hb hg in_T hown hK hP 4 rfl rfl 2 (by decide) (va_Nw.use rfl (hN _ nw_3)) (fun _ h9 => h9) rfl d_X_keepBetween_41 ?_
  refine lv_lmul hx hb d_X_keepBetween_44 ?_
  refine lv_aload_n hx hb d_X_keepBetween_45 rfl (lv_at hl 3 rfl) ?_
  refine va_getN (D := (dC, dI)) (ci := 0) (v := .ref tx) (C := R_T) (T := F_T) (N := 4) hx hb hg in_T hown hK hP 4 rfl rfl 0 (by decide) (va_Nw.use rfl (hN _ nw_1)) (fun _ h9 => h9) rfl d_X_keepBetween_46 ?_
  refine lv_iload_n hx hb d_X_keepBetween_49 rfl (lv_at hl 4 rfl) ?_
  refine lv_iconst (v := 1) hx hb d_X_keepBetween_50 (by decide) ?_
  refine lv_isub hx hb d_X_keepBetween_51 ?_
  refine lv_topi (fun i_5 ei_5 => ?_)
  refine va_lald hx hb hK hP 5 0 rfl rfl (by rw [ei_5]; exact hx2) d_X_keepBetween_52 ?_
  refine lv_aload_n hx hb d_X_keepBetween_53 rfl (lv_at hl 2 rfl) ?_
  refine va_get (D := (dC, dI)) (ci := 1) (v := .ref a2) (C := R_X) (T := F_X) (N := 7) hx hb hg in_X hown hK hP 0 rfl rfl 1 (by decide) (hg _ wg_47) (fun _ h9 => h9) rfl d_X_keepBetween_54 ?_
  refine lv_iload_n hx hb d_X_keepBetween_57 rfl (lv_at hl 5 rfl) ?_
  refine va_lald hx hb hK hP 2 0 rfl rfl ha d_X_keepBetween_58 ?_
  refine lv_lmul hx hb d_X_keepBetween_59 ?_
  refine lv_lsub hx hb d_X_keepBetween_60 ?_
  refine lv_topl (fun v_6 ev_6 => ?_)
  refine lv_lstore (lv' := [(8, .long v_6), (6, .long v_4), (4, .long v_2), (0, .ref h), (1, .ref th), (2, .int nx), (3, .int a)]) hx hb d_X_keepBetween_61 hl (by decide) rfl (fun ls hl => ?_)
  refine lv_aload_n hx hb d_X_keepBetween_63 rfl (lv_at hl 4 rfl) ?_
  refine va_getN (D := (dC, dI)) (ci := 0) (v := .ref ty) (C := R_T) (T := F_T) (N := 4) hx hb hg in_T hown hK hP 4 rfl rfl 1 (by decide) (va_Nw.use rfl (hN _ nw_2)) (fun _ h9 => h9) rfl d_X_keepBetween_64 ?_
  refine lv_iload_n hx hb d_X_keepBetween_67 rfl (lv_at hl 5 rfl) ?_
  refine lv_iconst (v := 1) hx hb d_X_keepBetween_68 (by decide) ?_
  refine lv_isub hx hb d_X_keepBetween_69 ?_
  refine lv_topi (fun i_7 ei_7 => ?_)
  refine va_lald hx hb hK hP 6 0 rfl rfl (by rw [ei_7]; exact hx2) d_X_keepBetween_70 ?_
  refine lv_lload hx hb d_X_keepBetween_71 (lv_at hl 2 rfl) ?_
  refine lv_lmul hx hb d_X_keepBetween_73 ?_
  refine lv_aload_n hx hb d_X_keepBetween_74 rfl (lv_at hl 3 rfl) ?_
  refine va_get (D := (dC, dI)) (ci := 1) (v := .ref a2) (C := R_X) (T := F_X) (N := 7) hx hb hg in_X hown hK hP 0 rfl rfl 1 (by decide) (hg _ wg_47) (fun _ h9 => h9) rfl d_X_keepBetween_75 ?_
  refine lv_iload_n hx hb d_X_keepBetween_78 rfl (lv_at hl 6 rfl) ?_
  refine va_lald hx hb hK hP 2 0 rfl rfl ha d_X_keepBetween_79 ?_
  refine lv_lmul hx hb d_X_keepBetween_80 ?_
  refine lv_lload hx hb d_X_keepBetween_81 (lv_at hl 1 rfl) ?_
  refine lv_lload hx hb d_X_keepBetween_83 (lv_at hl 0 rfl) ?_
  refine lv_lmul hx hb d_X_keepBetween_85 ?_
  refine lv_ladd hx hb d_X_keepBetween_86 ?_
  refine lv_topl (fun v_8 ev_8 => ?_)
  refine lv_lstore (lv' := [(10, .long v_8), (8, .long v_6), (6, .long v_4), (4, .long v_2), (0, .ref h), (1, .ref th), (2, .int nx), (3, .int a)]) hx hb d_X_keepBetween_87 hl (by decide) rfl (fun ls hl => ?_)
  refine lv_aload_n hx hb d_X_keepBetween_89 rfl (lv_at hl 4 rfl) ?_
  refine lv_lload hx hb d_X_keepBetween_90 (lv_at hl 0 rfl) ?_
  refine lv_lload hx hb d_X_keepBetween_92 (lv_at hl 3 rfl) ?_
  refine lv_aload_n hx hb d_X_keepBetween_94 rfl (lv_at hl 4 rfl) ?_
  refine va_get (D := (dC, dI)) (ci := 1) (v := .ref a2) (C := R_X) (T := F_X) (N := 7) hx hb hg in_X hown hK hP 0 rfl rfl 1 (by decide) (hg _ wg_47) (fun _ h9 => h9) rfl d_X_keepBetween_95 ?_
  refine lv_iload_n hx hb d_X_keepBetween_98 rfl (lv_at hl 7 rfl) ?_
  refine va_lald hx hb hK hP 2 0 rfl rfl ha d_X_keepBetween_99 ?_
  refine lv_lmul hx hb d_X_keepBetween_100 ?_
  refine lv_aload_n hx hb d_X_keepBetween_101 rfl (lv_at hl 5 rfl) ?_
  refine va_getN (D := (dC, dI)) (ci := 0) (v := .long tb) (C := R_T) (T := F_T) (N := 4) hx hb hg in_T hown hK hP 4 rfl rfl 2 (by decide) (va_Nw.use rfl (hN _ nw_3)) (fun _ h9 => h9) rfl d_X_keepBetween_102 ?_
  refine lv_lmul hx hb d_X_keepBetween_105 ?_
  refine lv_iconst (v := 0) hx hb d_X_keepBetween_106 (by decide) ?_
  have hPc := hP.sub (ws' := [(h, .inr (1, [.ref a1, .ref a2, .ref a3, .int n, .ref a4, .int k, .ref a5])), (a1, .inl (cJ, 500, .inr (.inl ab))), (a2, .inl (cJ, 500, .inr (.inl be))), (a3, .inl (cI, 500, .inl un))]) [0, 1, 2, 3] rfl
  have hDc := hD.sub (ws' := [(h, .inr (1, [.ref a1, .ref a2, .ref a3, .int n, .ref a4, .int k, .ref a5])), (a1, .inl (cJ, 500, .inr (.inl ab))), (a2, .inl (cJ, 500, .inr (.inl be))), (a3, .inl (cI, 500, .inl un))]) [0, 1, 2, 3] (by decide) rfl
  have hFc := va_free (wc := [(h, .inr (1, [.ref a1, .ref a2, .ref a3, .int n, .ref a4, .int k, .ref a5])), (a1, .inl (cJ, 500, .inr (.inl ab))), (a2, .inl (cJ, 500, .inr (.inl be))), (a3, .inl (cI, 500, .inl un))]) hD hS hA [0, 1, 2, 3] rfl
  refine va_calli (va_runV (As := [.long v_8, .long ((v_2 * (be a.toNatClampNeg)) * tb), .int 0]) (rest := []) ⟨hx, hb, hml, hown, hg⟩ (k_X_keep l dC dI cJ cI cT h a1 a2 a3 a4 a5 n k ab be un v_8 ((v_2 * (be a.toNatClampNeg)) * tb) 0 _ hn0) (q_V 3 hg wg_69 wg_67 wg_68 wg_1 wg_13 rfl rfl (by decide +kernel) ⟨Nat.le_of_ble_eq_true rfl, Nat.le_of_ble_eq_true rfl⟩) ⟨wx_blind, va_recv hK hPc (ci := 1) (q0 := 0) rfl rfl, wx_pre (as := .ref h :: [.long v_8, .long ((v_2 * (be a.toNatClampNeg)) * tb), .int 0]) hPc hK hDc⟩ rfl rfl hl.1 rfl (lv_room (Nat.le_of_ble_eq_true rfl)) d_X_keepBetween_107 ⟨Nat.le_of_ble_eq_true rfl, Nat.le_of_ble_eq_true rfl⟩) hS (fun q _ h => hFc q h) hFc (fun r_13 u t H1 locs ht hvm hw_14 hB hz1 hk1 hS => ?_)
  obtain ⟨ab_9, be_10, un_11, n_12⟩ := u
  obtain ⟨hP1, hK1, hD1⟩ := hB
  rw [ht] at hP1
  obtain ⟨hP, hD⟩ := va_join (wr := [(th, .inr (0, [.ref tx, .ref ty, .long tb, .int tc])), (tx, .inl (cJ, 16, .inr (.inl xs))), (ty, .inl (cJ, 16, .inr (.inl ys)))]) (w1 := [(h, .inr (1, [.ref a1, .ref a2, .ref a3, .int n_12, .ref a4, .int k, .ref a5])), (a1, .inl (cJ, 500, .inr (.inl ab_9))), (a2, .inl (cJ, 500, .inr (.inl be_10))), (a3, .inl (cI, 500, .inl un_11))]) hP hD [0, 1, 2, 3] [4, 5, 6] rfl rfl (by decide) (by decide) hk1 hFc hP1 hD1
  generalize H1 = H at hP hS ⊢
  have hP : va_P (dC, dI) classes [(th, .inr (0, [.ref tx, .ref ty, .long tb, .int tc])), (tx, .inl (cJ, 16, .inr (.inl xs))), (ty, .inl (cJ, 16, .inr (.inl ys))), (h, .inr (1, [.ref a1, .ref a2, .ref a3, .int n_12, .ref a4, .int k, .ref a5])), (a1, .inl (cJ, 500, .inr (.inl ab_9))), (a2, .inl (cJ, 500, .inr (.inl be_10))), (a3, .inl (cI, 500, .inl un_11))] H := hP
  have hD : va_D A [(th, .inr (0, [.ref tx, .ref ty, .long tb, .int tc])), (tx, .inl (cJ, 16, .inr (.inl xs))), (ty, .inl (cJ, 16, .inr (.inl ys))), (h, .inr (1, [.ref a1, .ref a2, .ref a3, .int n_12, .ref a4, .int k, .ref a5])), (a1, .inl (cJ, 500, .inr (.inl ab_9))), (a2, .inl (cJ, 500, .inr (.inl be_10))), (a3, .inl (cI, 500, .inl un_11))] := hD
  subst ev_8
  subst ei_7
  subst ev_6
  subst ei_5
  subst ev_4
  subst ei_3
  subst ev_2
  subst ei_1
  have hP9 := hP.sub (ws' := [(h, .inr (1, [.ref a1, .ref a2, .ref a3, .int n_12, .ref a4, .int k, .ref a5])), (a1, .inl (cJ, 500, .inr (.inl ab_9))), (a2, .inl (cJ, 500, .inr (.inl be_10))), (a3, .inl (cI, 500, .inl un_11)), (th, .inr (0, [.ref tx, .ref ty, .long tb, .int tc])), (tx, .inl (cJ, 16, .inr (.inl xs))), (ty, .inl (cJ, 16, .inr (.inl ys)))]) [3, 4, 5, 6, 0, 1, 2] rfl
  have hD9 := hD.sub (ws' := [(h, .inr (1, [.ref a1, .ref a2, .ref a3, .int n_12, .ref a4, .int k, .ref a5])), (a1, .inl (cJ, 500, .inr (.inl ab_9))), (a2, .inl (cJ, 500, .inr (.inl be_10))), (a3, .inl (cI, 500, .inl un_11)), (th, .inr (0, [.ref tx, .ref ty, .long tb, .int tc])), (tx, .inl (cJ, 16, .inr (.inl xs))), (ty, .inl (cJ, 16, .inr (.inl ys)))]) [3, 4, 5, 6, 0, 1, 2] (by decide) rfl
  have hz : (r_13, (ab_9, be_10, un_11, n_12)) = f_X_keepBetween ab be un n tb xs ys nx a := by unfold f_X_keepBetween; skip; exact hw_14
  exact W.iret (v := r_13) hx hb hr (fun t ht hW => ⟨⟨r_13, (ab_9, be_10, un_11, n_12), rfl, hz, wb_of ht hW hP9 hK hD9⟩, hS.F ht⟩) hS.2.2 d_X_keepBetween_110
