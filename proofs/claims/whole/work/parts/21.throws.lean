def f_X_value (ab be : Nat → Int64) (un : Nat → Int32) (n : Int32) (x y : Int64) (z : Int32) : Int32 × (Nat → Int64) × (Nat → Int64) × (Nat → Int32) × Int32 := if y = 0 then ((0 : Int32), ab, be, un, n) else if z < 0 then ((-3), (ab, be, un, n)) else if 4 < z then ((-3), (ab, be, un, n)) else if (f_X_isTooFar x) = 0 then if (f_X_isTooFar y) = 0 then (f_X_keep ab be un n x y z) else ((-3), (ab, be, un, n)) else ((-3), (ab, be, un, n))
def e_X_value (ab be : Nat → Int64) (un : Nat → Int32) (n : Int32) (x y : Int64) (z : Int32) : Int32 := if y = 0 then 1 else if z < 0 then 0 else if 4 < z then 0 else if (f_X_isTooFar x) = 0 then if (f_X_isTooFar y) = 0 then 0 else 0 else 0
set_option maxHeartbeats 4000000 in
set_option maxRecDepth 100000 in
theorem k_X_value (l : Launch) (hlt : l.stackTraces = false) (dC : Nat → ClassId) (dI : Nat → Nat → Nat) (cJ cI cT : ClassId) (h a1 a2 a3 a4 a5 : Nat) (n k : Int32) (ab be : Nat → Int64) (un : Nat → Int32) (x y : Int64) (z : Int32) (sa : Nat) (sz : Nat) (hn0 : 0 ≤ n.toInt) : vx_Met l y_X_value w_X_value ({ frames := 6, cells := 1, slots := 6, locals := 90 }) (va_Pc [.ref h, .long x, .long y, .int z] (fun U => wx dC dI cJ cI cT sz [(h, .inr (1, [.ref a1, .ref a2, .ref a3, .int n, .ref a4, .int k, .ref a5])), (a1, .inl (cJ, 500, .inr (.inl ab))), (a2, .inl (cJ, 500, .inr (.inl be))), (a3, .inl (cI, 500, .inl un))] U ∧ thr (va_A [(h, .inr (1, [.ref a1, .ref a2, .ref a3, .int n, .ref a4, .int k, .ref a5])), (a1, .inl (cJ, 500, .inr (.inl ab))), (a2, .inl (cJ, 500, .inr (.inl be))), (a3, .inl (cI, 500, .inl un))] sz) 32 "below is 0" sa U)) (va_Qi (fun (r9 : Int32) (u9 : (Nat → Int64) × (Nat → Int64) × (Nat → Int32) × Int32) => (r9, u9) = f_X_value ab be un n x y z ∧ e_X_value ab be un n x y z = 0) (fun u => wb dC dI cJ cI cT (va_A [(h, .inr (1, [.ref a1, .ref a2, .ref a3, .int n, .ref a4, .int k, .ref a5])), (a1, .inl (cJ, 500, .inr (.inl ab))), (a2, .inl (cJ, 500, .inr (.inl be))), (a3, .inl (cI, 500, .inl un))] sz) [(h, .inr (1, [.ref a1, .ref a2, .ref a3, .int u.2.2.2, .ref a4, .int k, .ref a5])), (a1, .inl (cJ, 500, .inr (.inl u.1))), (a2, .inl (cJ, 500, .inr (.inl u.2.1))), (a3, .inl (cI, 500, .inl u.2.2.1))]) (va_A [(h, .inr (1, [.ref a1, .ref a2, .ref a3, .int n, .ref a4, .int k, .ref a5])), (a1, .inl (cJ, 500, .inr (.inl ab))), (a2, .inl (cJ, 500, .inr (.inl be))), (a3, .inl (cI, 500, .inl un))] sz)) (vx_X (fun (_ : Unit) => e_X_value ab be un n x y z = 1) (fun E _ t => E = "java/lang/ArithmeticException" ∧ wb dC dI cJ cI cT (va_A [(h, .inr (1, [.ref a1, .ref a2, .ref a3, .int n, .ref a4, .int k, .ref a5])), (a1, .inl (cJ, 500, .inr (.inl ab))), (a2, .inl (cJ, 500, .inr (.inl be))), (a3, .inl (cI, 500, .inl un))] sz) [(h, .inr (1, [.ref a1, .ref a2, .ref a3, .int n, .ref a4, .int k, .ref a5])), (a1, .inl (cJ, 500, .inr (.inl ab))), (a2, .inl (cJ, 500, .inr (.inl be))), (a3, .inl (cI, 500, .inl un))] t) (va_A [(h, .inr (1, [.ref a1, .ref a2, .ref a3, .int n, .ref a4, .int k, .ref a5])), (a1, .inl (cJ, 500, .inr (.inl ab))), (a2, .inl (cJ, 500, .inr (.inl be))), (a3, .inl (cI, 500, .inl un))] sz)) 1 6 (va_A [(h, .inr (1, [.ref a1, .ref a2, .ref a3, .int n, .ref a4, .int k, .ref a5])), (a1, .inl (cJ, 500, .inr (.inl ab))), (a2, .inl (cJ, 500, .inr (.inl be))), (a3, .inl (cI, 500, .inl un))] sz) := by
  refine vx_ofW (cc := c_X_value) (maxL := 6) (ret := (Option.some Jvm.ClassFile.FieldType.int)) (by decide) rfl ?_
  intro p e s m args below meth c s₁ B hml hxt hv
  obtain ⟨rfl, ⟨hsz, hP, hK, hD0⟩, hT⟩ := hv
  have hx := B.exec
  have hb := B.bytes
  have hr := B.returns
  have hts := atoms_spec (ws := w_X_value) B.pre
  have hg : ∀ w ∈ WG, w.before _ s = true := fun w h => hts w (List.mem_cons_of_mem _ h)
  have hown : s.vm.findClass R_X = some m.cls := findClass_of_methodNamed B.named
  have hlocks := B.notSynchronized
  have hl := lv_entry ([.ref h, .long x, .long y, .int z]) (n := 6) (Nat.le_of_ble_eq_true rfl)
  rw [lg_entry_eq]
  generalize (lg_sl ([.ref h, .long x, .long y, .int z]) ++ List.replicate (6 - (lg_sl ([.ref h, .long x, .long y, .int z])).length) Slot.unset).toArray = ls at hl ⊢
  have hl : lv_has ls 6 [(0, .ref h), (1, .long x), (3, .long y), (5, .int z)] := hl
  subst hsz
  have hD := hD0.self (sz := s.heap.size)
  generalize hAe : va_A [(h, .inr (1, [.ref a1, .ref a2, .ref a3, .int n, .ref a4, .int k, .ref a5])), (a1, .inl (cJ, 500, .inr (.inl ab))), (a2, .inl (cJ, 500, .inr (.inl be))), (a3, .inl (cI, 500, .inl un))] s.heap.size = A at hD hT ⊢
  have hA : ∀ q : Nat, s.heap.size ≤ q → A q := fun q h => by rw [← hAe]; exact Or.inr h
  have hS : va_S A s.heap s.heap [] := va_S.rf
  have hP : va_P (dC, dI) classes [(h, .inr (1, [.ref a1, .ref a2, .ref a3, .int n, .ref a4, .int k, .ref a5])), (a1, .inl (cJ, 500, .inr (.inl ab))), (a2, .inl (cJ, 500, .inr (.inl be))), (a3, .inl (cI, 500, .inl un))] s.heap := hP
  have hD : va_D A [(h, .inr (1, [.ref a1, .ref a2, .ref a3, .int n, .ref a4, .int k, .ref a5])), (a1, .inl (cJ, 500, .inr (.inl ab))), (a2, .inl (cJ, 500, .inr (.inl be))), (a3, .inl (cI, 500, .inl un))] := hD
  refine lv_lload_n hx hb d_X_value_0 rfl (lv_at hl 2 rfl) ?_
  refine lv_lconst (v := 0) hx hb d_X_value_1 (by decide) ?_
  refine W.lcmp hx hb d_X_value_2 ?_
  refine lv_if_ne (tgt := 16) hx hb d_X_value_3 (by decide) (fun c_1 => ?_) (fun c_1 => ?_)
  · skip
    rw [lg_cmp_eq] at c_1
    refine lv_iload hx hb d_X_value_16 (lv_at hl 3 rfl) ?_
    refine lv_if_lt (tgt := 41) hx hb d_X_value_18 (by decide) (fun c_2 => ?_) (fun c_2 => ?_)
    · skip
      refine lv_bipush (v := (-3)) hx hb d_X_value_41 (by decide) ?_
      have hP9 := hP.sub (ws' := [(h, .inr (1, [.ref a1, .ref a2, .ref a3, .int n, .ref a4, .int k, .ref a5])), (a1, .inl (cJ, 500, .inr (.inl ab))), (a2, .inl (cJ, 500, .inr (.inl be))), (a3, .inl (cI, 500, .inl un))]) [0, 1, 2, 3] rfl
      have hD9 := hD.sub (ws' := [(h, .inr (1, [.ref a1, .ref a2, .ref a3, .int n, .ref a4, .int k, .ref a5])), (a1, .inl (cJ, 500, .inr (.inl ab))), (a2, .inl (cJ, 500, .inr (.inl be))), (a3, .inl (cI, 500, .inl un))]) [0, 1, 2, 3] (by decide) rfl
      have hz : ((-3), (ab, be, un, n)) = f_X_value ab be un n x y z := by unfold f_X_value; rw [if_neg c_1, if_pos c_2]
      have hy : e_X_value ab be un n x y z = 0 := by unfold e_X_value; rw [if_neg c_1, if_pos c_2]
      refine W.widen (k := 1) (n := 6) (Nat.le_of_ble_eq_true rfl) (Nat.le_of_ble_eq_true rfl) ?_
      refine vx_ret ?_
      exact W.iret (v := (-3)) hx hb hr (fun t ht hW => ⟨⟨(-3), (ab, be, un, n), rfl, ⟨hz, hy⟩, wb_of ht hW hP9 hK hD9⟩, hS.F ht⟩) hS.2.2 d_X_value_43
    · skip
      refine lv_iload hx hb d_X_value_21 (lv_at hl 3 rfl) ?_
      refine lv_iconst (v := 4) hx hb d_X_value_23 (by decide) ?_
      refine lv_icmp_gt (tgt := 41) hx hb d_X_value_24 (by decide) (fun c_3 => ?_) (fun c_3 => ?_)
      · skip
        refine lv_bipush (v := (-3)) hx hb d_X_value_41 (by decide) ?_
        have hP9 := hP.sub (ws' := [(h, .inr (1, [.ref a1, .ref a2, .ref a3, .int n, .ref a4, .int k, .ref a5])), (a1, .inl (cJ, 500, .inr (.inl ab))), (a2, .inl (cJ, 500, .inr (.inl be))), (a3, .inl (cI, 500, .inl un))]) [0, 1, 2, 3] rfl
        have hD9 := hD.sub (ws' := [(h, .inr (1, [.ref a1, .ref a2, .ref a3, .int n, .ref a4, .int k, .ref a5])), (a1, .inl (cJ, 500, .inr (.inl ab))), (a2, .inl (cJ, 500, .inr (.inl be))), (a3, .inl (cI, 500, .inl un))]) [0, 1, 2, 3] (by decide) rfl
        have hz : ((-3), (ab, be, un, n)) = f_X_value ab be un n x y z := by unfold f_X_value; rw [if_neg c_1, if_neg c_2, if_pos c_3]
        have hy : e_X_value ab be un n x y z = 0 := by unfold e_X_value; rw [if_neg c_1, if_neg c_2, if_pos c_3]
        refine W.widen (k := 1) (n := 6) (Nat.le_of_ble_eq_true rfl) (Nat.le_of_ble_eq_true rfl) ?_
        refine vx_ret ?_
        exact W.iret (v := (-3)) hx hb hr (fun t ht hW => ⟨⟨(-3), (ab, be, un, n), rfl, ⟨hz, hy⟩, wb_of ht hW hP9 hK hD9⟩, hS.F ht⟩) hS.2.2 d_X_value_43
      · skip
        refine lv_lload_n hx hb d_X_value_27 rfl (lv_at hl 1 rfl) ?_
        refine W.callV (W.runS (As := [.long x]) (rest := []) ⟨hx, hb, hml, hown, hg⟩ (k_X_isTooFar l x) (q_S 1 hg wg_221 wg_219 wg_220 wg_13 rfl rfl (by decide +kernel) ⟨Nat.le_of_ble_eq_true rfl, Nat.le_of_ble_eq_true rfl⟩) ⟨nw_blind, fun _ _ _ => ⟨rfl, trivial⟩⟩ rfl rfl hl.1 rfl (lv_room (Nat.le_of_ble_eq_true rfl)) d_X_value_28 ⟨Nat.le_of_ble_eq_true rfl, Nat.le_of_ble_eq_true rfl⟩) ?_
        refine W.eq (g2 := F0 m 31 ls (.int (f_X_isTooFar x) :: [])) rfl ?_
        refine lv_if_ne (tgt := 41) hx hb d_X_value_31 (by decide) (fun c_4 => ?_) (fun c_4 => ?_)
        · skip
          refine lv_bipush (v := (-3)) hx hb d_X_value_41 (by decide) ?_
          have hP9 := hP.sub (ws' := [(h, .inr (1, [.ref a1, .ref a2, .ref a3, .int n, .ref a4, .int k, .ref a5])), (a1, .inl (cJ, 500, .inr (.inl ab))), (a2, .inl (cJ, 500, .inr (.inl be))), (a3, .inl (cI, 500, .inl un))]) [0, 1, 2, 3] rfl
          have hD9 := hD.sub (ws' := [(h, .inr (1, [.ref a1, .ref a2, .ref a3, .int n, .ref a4, .int k, .ref a5])), (a1, .inl (cJ, 500, .inr (.inl ab))), (a2, .inl (cJ, 500, .inr (.inl be))), (a3, .inl (cI, 500, .inl un))]) [0, 1, 2, 3] (by decide) rfl
          have hz : ((-3), (ab, be, un, n)) = f_X_value ab be un n x y z := by unfold f_X_value; rw [if_neg c_1, if_neg c_2, if_neg c_3, if_neg c_4]
          have hy : e_X_value ab be un n x y z = 0 := by unfold e_X_value; rw [if_neg c_1, if_neg c_2, if_neg c_3, if_neg c_4]
          refine W.widen (k := 1) (n := 6) (Nat.le_of_ble_eq_true rfl) (Nat.le_of_ble_eq_true rfl) ?_
          refine vx_ret ?_
          exact W.iret (v := (-3)) hx hb hr (fun t ht hW => ⟨⟨(-3), (ab, be, un, n), rfl, ⟨hz, hy⟩, wb_of ht hW hP9 hK hD9⟩, hS.F ht⟩) hS.2.2 d_X_value_43
        · skip
          refine lv_lload_n hx hb d_X_value_34 rfl (lv_at hl 2 rfl) ?_
          refine W.callV (W.runS (As := [.long y]) (rest := []) ⟨hx, hb, hml, hown, hg⟩ (k_X_isTooFar l y) (q_S 1 hg wg_221 wg_219 wg_220 wg_13 rfl rfl (by decide +kernel) ⟨Nat.le_of_ble_eq_true rfl, Nat.le_of_ble_eq_true rfl⟩) ⟨nw_blind, fun _ _ _ => ⟨rfl, trivial⟩⟩ rfl rfl hl.1 rfl (lv_room (Nat.le_of_ble_eq_true rfl)) d_X_value_35 ⟨Nat.le_of_ble_eq_true rfl, Nat.le_of_ble_eq_true rfl⟩) ?_
          refine W.eq (g2 := F0 m 38 ls (.int (f_X_isTooFar y) :: [])) rfl ?_
          refine lv_if_eq (tgt := 44) hx hb d_X_value_38 (by decide) (fun c_5 => ?_) (fun c_5 => ?_)
          · skip
            refine lv_aload_n hx hb d_X_value_44 rfl (lv_at hl 0 rfl) ?_
            refine lv_lload_n hx hb d_X_value_45 rfl (lv_at hl 1 rfl) ?_
            refine lv_lload_n hx hb d_X_value_46 rfl (lv_at hl 2 rfl) ?_
            refine lv_iload hx hb d_X_value_47 (lv_at hl 3 rfl) ?_
            have hPc := hP.sub (ws' := [(h, .inr (1, [.ref a1, .ref a2, .ref a3, .int n, .ref a4, .int k, .ref a5])), (a1, .inl (cJ, 500, .inr (.inl ab))), (a2, .inl (cJ, 500, .inr (.inl be))), (a3, .inl (cI, 500, .inl un))]) [0, 1, 2, 3] rfl
            have hDc := hD.sub (ws' := [(h, .inr (1, [.ref a1, .ref a2, .ref a3, .int n, .ref a4, .int k, .ref a5])), (a1, .inl (cJ, 500, .inr (.inl ab))), (a2, .inl (cJ, 500, .inr (.inl be))), (a3, .inl (cI, 500, .inl un))]) [0, 1, 2, 3] (by decide) rfl
            have hFc := va_free (wc := [(h, .inr (1, [.ref a1, .ref a2, .ref a3, .int n, .ref a4, .int k, .ref a5])), (a1, .inl (cJ, 500, .inr (.inl ab))), (a2, .inl (cJ, 500, .inr (.inl be))), (a3, .inl (cI, 500, .inl un))]) hD hS hA [0, 1, 2, 3] rfl
            refine va_calli (va_runV (As := [.long x, .long y, .int z]) (rest := []) ⟨hx, hb, hml, hown, hg⟩ (k_X_keep l dC dI cJ cI cT h a1 a2 a3 a4 a5 n k ab be un x y z _ hn0) (q_V 3 hg wg_69 wg_67 wg_68 wg_1 wg_13 rfl rfl (by decide +kernel) ⟨Nat.le_of_ble_eq_true rfl, Nat.le_of_ble_eq_true rfl⟩) ⟨wx_blind, va_recv hK hPc (ci := 1) (q0 := 0) rfl rfl, wx_pre (as := .ref h :: [.long x, .long y, .int z]) hPc hK hDc⟩ rfl rfl hl.1 rfl (lv_room (Nat.le_of_ble_eq_true rfl)) d_X_value_49 ⟨Nat.le_of_ble_eq_true rfl, Nat.le_of_ble_eq_true rfl⟩) hS (fun q _ h => hFc q h) hFc (fun r_10 u t H1 locs ht hvm hw_11 hB hz1 hk1 hS => ?_)
            obtain ⟨ab_6, be_7, un_8, n_9⟩ := u
            obtain ⟨hP1, hK1, hD1⟩ := hB
            rw [ht] at hP1
            obtain ⟨hP, hD⟩ := va_join (wr := []) (w1 := [(h, .inr (1, [.ref a1, .ref a2, .ref a3, .int n_9, .ref a4, .int k, .ref a5])), (a1, .inl (cJ, 500, .inr (.inl ab_6))), (a2, .inl (cJ, 500, .inr (.inl be_7))), (a3, .inl (cI, 500, .inl un_8))]) hP hD [0, 1, 2, 3] [] rfl rfl (by decide) (by decide) hk1 hFc hP1 hD1
            generalize H1 = H at hP hS ⊢
            have hP : va_P (dC, dI) classes [(h, .inr (1, [.ref a1, .ref a2, .ref a3, .int n_9, .ref a4, .int k, .ref a5])), (a1, .inl (cJ, 500, .inr (.inl ab_6))), (a2, .inl (cJ, 500, .inr (.inl be_7))), (a3, .inl (cI, 500, .inl un_8))] H := hP
            have hD : va_D A [(h, .inr (1, [.ref a1, .ref a2, .ref a3, .int n_9, .ref a4, .int k, .ref a5])), (a1, .inl (cJ, 500, .inr (.inl ab_6))), (a2, .inl (cJ, 500, .inr (.inl be_7))), (a3, .inl (cI, 500, .inl un_8))] := hD
            have hP9 := hP.sub (ws' := [(h, .inr (1, [.ref a1, .ref a2, .ref a3, .int n_9, .ref a4, .int k, .ref a5])), (a1, .inl (cJ, 500, .inr (.inl ab_6))), (a2, .inl (cJ, 500, .inr (.inl be_7))), (a3, .inl (cI, 500, .inl un_8))]) [0, 1, 2, 3] rfl
            have hD9 := hD.sub (ws' := [(h, .inr (1, [.ref a1, .ref a2, .ref a3, .int n_9, .ref a4, .int k, .ref a5])), (a1, .inl (cJ, 500, .inr (.inl ab_6))), (a2, .inl (cJ, 500, .inr (.inl be_7))), (a3, .inl (cI, 500, .inl un_8))]) [0, 1, 2, 3] (by decide) rfl
            have hz : (r_10, (ab_6, be_7, un_8, n_9)) = f_X_value ab be un n x y z := by unfold f_X_value; rw [if_neg c_1, if_neg c_2, if_neg c_3, if_pos c_4, if_pos c_5]; exact hw_11
            have hy : e_X_value ab be un n x y z = 0 := by unfold e_X_value; rw [if_neg c_1, if_neg c_2, if_neg c_3, if_pos c_4, if_pos c_5]
            refine W.widen (k := 1) (n := 6) (Nat.le_of_ble_eq_true rfl) (Nat.le_of_ble_eq_true rfl) ?_
            refine vx_ret ?_
            exact W.iret (v := r_10) hx hb hr (fun t ht hW => ⟨⟨r_10, (ab_6, be_7, un_8, n_9), rfl, ⟨hz, hy⟩, wb_of ht hW hP9 hK hD9⟩, hS.F ht⟩) hS.2.2 d_X_value_52
          · skip
            refine lv_bipush (v := (-3)) hx hb d_X_value_41 (by decide) ?_
            have hP9 := hP.sub (ws' := [(h, .inr (1, [.ref a1, .ref a2, .ref a3, .int n, .ref a4, .int k, .ref a5])), (a1, .inl (cJ, 500, .inr (.inl ab))), (a2, .inl (cJ, 500, .inr (.inl be))), (a3, .inl (cI, 500, .inl un))]) [0, 1, 2, 3] rfl
            have hD9 := hD.sub (ws' := [(h, .inr (1, [.ref a1, .ref a2, .ref a3, .int n, .ref a4, .int k, .ref a5])), (a1, .inl (cJ, 500, .inr (.inl ab))), (a2, .inl (cJ, 500, .inr (.inl be))), (a3, .inl (cI, 500, .inl un))]) [0, 1, 2, 3] (by decide) rfl
            have hz : ((-3), (ab, be, un, n)) = f_X_value ab be un n x y z := by unfold f_X_value; rw [if_neg c_1, if_neg c_2, if_neg c_3, if_pos c_4, if_neg c_5]
            have hy : e_X_value ab be un n x y z = 0 := by unfold e_X_value; rw [if_neg c_1, if_neg c_2, if_neg c_3, if_pos c_4, if_neg c_5]
            refine W.widen (k := 1) (n := 6) (Nat.le_of_ble_eq_true rfl) (Nat.le_of_ble_eq_true rfl) ?_
            refine vx_ret ?_
            exact W.iret (v := (-3)) hx hb hr (fun t ht hW => ⟨⟨(-3), (ab, be, un, n), rfl, ⟨hz, hy⟩, wb_of ht hW hP9 hK hD9⟩, hS.F ht⟩) hS.2.2 d_X_value_43
  · skip
    rw [lg_cmp_eq] at c_1
    have hP9 := hP.sub (ws' := [(h, .inr (1, [.ref a1, .ref a2, .ref a3, .int n, .ref a4, .int k, .ref a5])), (a1, .inl (cJ, 500, .inr (.inl ab))), (a2, .inl (cJ, 500, .inr (.inl be))), (a3, .inl (cI, 500, .inl un))]) [0, 1, 2, 3] rfl
    have hD9 := hD.sub (ws' := [(h, .inr (1, [.ref a1, .ref a2, .ref a3, .int n, .ref a4, .int k, .ref a5])), (a1, .inl (cJ, 500, .inr (.inl ab))), (a2, .inl (cJ, 500, .inr (.inl be))), (a3, .inl (cI, 500, .inl un))]) [0, 1, 2, 3] (by decide) rfl
    exact vx_throwS (own := "LitreFractions") (cls := "java/lang/ArithmeticException") (text := "below is 0") (names := ["java/lang/RuntimeException", "java/lang/Exception"]) (ik := 30) (is := 32) (ic := 34) (sa := sa) (A := A) hx hb hlt hown (by decide) (by decide) (hg _ wg_174) (hg _ wg_19) hT.2.2.2 (hat_AE hg hT.1) ot_AE hT.2.1 hT.2.2.1 hS (hl.1.trans hml.symm) d_X_value_6 d_X_value_9 d_X_value_10 d_X_value_12 d_X_value_15 (fun x hx9 => (hxt x hx9).elim) (Nat.le_of_ble_eq_true rfl) (Nat.le_of_ble_eq_true rfl) (Nat.le_of_ble_eq_true rfl) (Nat.le_of_ble_eq_true rfl) hlocks (fun t hvm hz9 hk9 => ⟨(), (by unfold e_X_value; rw [if_pos c_1]), ⟨rfl, hP9.kept (fun k x hx => hk9 x.1 (hP9 k x hx).lt), va_K.moved hvm hK, hD9⟩, Nat.le_trans hS.1 hz9, fun q h1 h2 => (hk9 q (Nat.lt_of_lt_of_le h1 hS.1)).trans (hS.2.1 q h1 h2)⟩) hS.2.2 (Nat.le_of_ble_eq_true rfl) (Nat.le_of_ble_eq_true rfl)
def f_X_over (ab be : Nat → Int64) (un : Nat → Int32) (n a b : Int32) : Int32 × (Nat → Int64) × (Nat → Int64) × (Nat → Int32) × Int32 := if (f_X_isAmount a n) = 0 then ((-3), (ab, be, un, n)) else if (f_X_isAmount b n) = 0 then ((-3), (ab, be, un, n)) else if (f_X_unitOfQuotient (un a.toNatClampNeg) (un b.toNatClampNeg)) = (-1) then ((-1), (ab, be, un, n)) else if (ab b.toNatClampNeg) = 0 then ((0 : Int32), ab, be, un, n) else (f_X_keep ab be un n ((ab a.toNatClampNeg) * (be b.toNatClampNeg)) ((be a.toNatClampNeg) * (ab b.toNatClampNeg)) (f_X_unitOfQuotient (un a.toNatClampNeg) (un b.toNatClampNeg)))
def e_X_over (ab be : Nat → Int64) (un : Nat → Int32) (n a b : Int32) : Int32 := if (f_X_isAmount a n) = 0 then 0 else if (f_X_isAmount b n) = 0 then 0 else if (f_X_unitOfQuotient (un a.toNatClampNeg) (un b.toNatClampNeg)) = (-1) then 0 else if (ab b.toNatClampNeg) = 0 then 1 else 0
set_option maxHeartbeats 4000000 in
set_option maxRecDepth 100000 in
theorem k_X_over (l : Launch) (hlt : l.stackTraces = false) (dC : Nat → ClassId) (dI : Nat → Nat → Nat) (cJ cI cT : ClassId) (h a1 a2 a3 a4 a5 : Nat) (n k : Int32) (ab be : Nat → Int64) (un : Nat → Int32) (a b : Int32) (sa : Nat) (sz : Nat) (hn0 : 0 ≤ n.toInt) (hn : n.toInt ≤ (500 : Nat)) : vx_Met l y_X_over w_X_over ({ frames := 6, cells := 1, slots := 6, locals := 90 }) (va_Pc [.ref h, .int a, .int b] (fun U => wx dC dI cJ cI cT sz [(h, .inr (1, [.ref a1, .ref a2, .ref a3, .int n, .ref a4, .int k, .ref a5])), (a1, .inl (cJ, 500, .inr (.inl ab))), (a2, .inl (cJ, 500, .inr (.inl be))), (a3, .inl (cI, 500, .inl un))] U ∧ thr (va_A [(h, .inr (1, [.ref a1, .ref a2, .ref a3, .int n, .ref a4, .int k, .ref a5])), (a1, .inl (cJ, 500, .inr (.inl ab))), (a2, .inl (cJ, 500, .inr (.inl be))), (a3, .inl (cI, 500, .inl un))] sz) 56 "the divisor is 0" sa U)) (va_Qi (fun (r9 : Int32) (u9 : (Nat → Int64) × (Nat → Int64) × (Nat → Int32) × Int32) => (r9, u9) = f_X_over ab be un n a b ∧ e_X_over ab be un n a b = 0) (fun u => wb dC dI cJ cI cT (va_A [(h, .inr (1, [.ref a1, .ref a2, .ref a3, .int n, .ref a4, .int k, .ref a5])), (a1, .inl (cJ, 500, .inr (.inl ab))), (a2, .inl (cJ, 500, .inr (.inl be))), (a3, .inl (cI, 500, .inl un))] sz) [(h, .inr (1, [.ref a1, .ref a2, .ref a3, .int u.2.2.2, .ref a4, .int k, .ref a5])), (a1, .inl (cJ, 500, .inr (.inl u.1))), (a2, .inl (cJ, 500, .inr (.inl u.2.1))), (a3, .inl (cI, 500, .inl u.2.2.1))]) (va_A [(h, .inr (1, [.ref a1, .ref a2, .ref a3, .int n, .ref a4, .int k, .ref a5])), (a1, .inl (cJ, 500, .inr (.inl ab))), (a2, .inl (cJ, 500, .inr (.inl be))), (a3, .inl (cI, 500, .inl un))] sz)) (vx_X (fun (_ : Unit) => e_X_over ab be un n a b = 1) (fun E _ t => E = "java/lang/ArithmeticException" ∧ wb dC dI cJ cI cT (va_A [(h, .inr (1, [.ref a1, .ref a2, .ref a3, .int n, .ref a4, .int k, .ref a5])), (a1, .inl (cJ, 500, .inr (.inl ab))), (a2, .inl (cJ, 500, .inr (.inl be))), (a3, .inl (cI, 500, .inl un))] sz) [(h, .inr (1, [.ref a1, .ref a2, .ref a3, .int n, .ref a4, .int k, .ref a5])), (a1, .inl (cJ, 500, .inr (.inl ab))), (a2, .inl (cJ, 500, .inr (.inl be))), (a3, .inl (cI, 500, .inl un))] t) (va_A [(h, .inr (1, [.ref a1, .ref a2, .ref a3, .int n, .ref a4, .int k, .ref a5])), (a1, .inl (cJ, 500, .inr (.inl ab))), (a2, .inl (cJ, 500, .inr (.inl be))), (a3, .inl (cI, 500, .inl un))] sz)) 1 6 (va_A [(h, .inr (1, [.ref a1, .ref a2, .ref a3, .int n, .ref a4, .int k, .ref a5])), (a1, .inl (cJ, 500, .inr (.inl ab))), (a2, .inl (cJ, 500, .inr (.inl be))), (a3, .inl (cI, 500, .inl un))] sz) := by
  refine vx_ofW (cc := c_X_over) (maxL := 4) (ret := (Option.some Jvm.ClassFile.FieldType.int)) (by decide) rfl ?_
  intro p e s m args below meth c s₁ B hml hxt hv
  obtain ⟨rfl, ⟨hsz, hP, hK, hD0⟩, hT⟩ := hv
  have hx := B.exec
  have hb := B.bytes
  have hr := B.returns
  have hts := atoms_spec (ws := w_X_over) B.pre
  have hg : ∀ w ∈ WG, w.before _ s = true := fun w h => hts w (List.mem_cons_of_mem _ h)
  have hown : s.vm.findClass R_X = some m.cls := findClass_of_methodNamed B.named
  have hlocks := B.notSynchronized
  have hl := lv_entry ([.ref h, .int a, .int b]) (n := 4) (Nat.le_of_ble_eq_true rfl)
  rw [lg_entry_eq]
  generalize (lg_sl ([.ref h, .int a, .int b]) ++ List.replicate (4 - (lg_sl ([.ref h, .int a, .int b])).length) Slot.unset).toArray = ls at hl ⊢
  have hl : lv_has ls 4 [(0, .ref h), (1, .int a), (2, .int b)] := hl
  subst hsz
  have hD := hD0.self (sz := s.heap.size)
  generalize hAe : va_A [(h, .inr (1, [.ref a1, .ref a2, .ref a3, .int n, .ref a4, .int k, .ref a5])), (a1, .inl (cJ, 500, .inr (.inl ab))), (a2, .inl (cJ, 500, .inr (.inl be))), (a3, .inl (cI, 500, .inl un))] s.heap.size = A at hD hT ⊢
  have hA : ∀ q : Nat, s.heap.size ≤ q → A q := fun q h => by rw [← hAe]; exact Or.inr h
  have hS : va_S A s.heap s.heap [] := va_S.rf
  have hP : va_P (dC, dI) classes [(h, .inr (1, [.ref a1, .ref a2, .ref a3, .int n, .ref a4, .int k, .ref a5])), (a1, .inl (cJ, 500, .inr (.inl ab))), (a2, .inl (cJ, 500, .inr (.inl be))), (a3, .inl (cI, 500, .inl un))] s.heap := hP
  have hD : va_D A [(h, .inr (1, [.ref a1, .ref a2, .ref a3, .int n, .ref a4, .int k, .ref a5])), (a1, .inl (cJ, 500, .inr (.inl ab))), (a2, .inl (cJ, 500, .inr (.inl be))), (a3, .inl (cI, 500, .inl un))] := hD
  refine lv_aload_n hx hb d_X_over_0 rfl (lv_at hl 0 rfl) ?_
  refine lv_iload_n hx hb d_X_over_1 rfl (lv_at hl 1 rfl) ?_
  have hPc := hP.sub (ws' := [(h, .inr (1, [.ref a1, .ref a2, .ref a3, .int n, .ref a4, .int k, .ref a5]))]) [0] rfl
  refine W.callV (W.runV (As := [.int a]) (rest := []) ⟨hx, hb, hml, hown, hg⟩ (k_X_isAmount l dC dI cJ cI cT h a1 a2 a3 a4 a5 n k a) (q_V 1 hg wg_66 wg_64 wg_65 wg_0 wg_13 rfl rfl (by decide +kernel) ⟨Nat.le_of_ble_eq_true rfl, Nat.le_of_ble_eq_true rfl⟩) ⟨wd_blind, va_recv hK hPc (ci := 1) (q0 := 0) rfl rfl, wd_pre (as := .ref h :: [.int a]) hPc hK⟩ rfl rfl hl.1 rfl (lv_room (Nat.le_of_ble_eq_true rfl)) d_X_over_2 ⟨Nat.le_of_ble_eq_true rfl, Nat.le_of_ble_eq_true rfl⟩) ?_
  refine W.eq (g2 := F0 m 5 ls (.int (f_X_isAmount a n) :: [])) rfl ?_
  refine lv_if_eq (tgt := 16) hx hb d_X_over_5 (by decide) (fun c_1 => ?_) (fun c_1 => ?_)
  · skip
    refine lv_bipush (v := (-3)) hx hb d_X_over_16 (by decide) ?_
    have hP9 := hP.sub (ws' := [(h, .inr (1, [.ref a1, .ref a2, .ref a3, .int n, .ref a4, .int k, .ref a5])), (a1, .inl (cJ, 500, .inr (.inl ab))), (a2, .inl (cJ, 500, .inr (.inl be))), (a3, .inl (cI, 500, .inl un))]) [0, 1, 2, 3] rfl
    have hD9 := hD.sub (ws' := [(h, .inr (1, [.ref a1, .ref a2, .ref a3, .int n, .ref a4, .int k, .ref a5])), (a1, .inl (cJ, 500, .inr (.inl ab))), (a2, .inl (cJ, 500, .inr (.inl be))), (a3, .inl (cI, 500, .inl un))]) [0, 1, 2, 3] (by decide) rfl
    have hz : ((-3), (ab, be, un, n)) = f_X_over ab be un n a b := by unfold f_X_over; rw [if_pos c_1]
    have hy : e_X_over ab be un n a b = 0 := by unfold e_X_over; rw [if_pos c_1]
    refine W.widen (k := 1) (n := 6) (Nat.le_of_ble_eq_true rfl) (Nat.le_of_ble_eq_true rfl) ?_
    refine vx_ret ?_
    exact W.iret (v := (-3)) hx hb hr (fun t ht hW => ⟨⟨(-3), (ab, be, un, n), rfl, ⟨hz, hy⟩, wb_of ht hW hP9 hK hD9⟩, hS.F ht⟩) hS.2.2 d_X_over_18
  · skip
    refine lv_aload_n hx hb d_X_over_8 rfl (lv_at hl 0 rfl) ?_
    refine lv_iload_n hx hb d_X_over_9 rfl (lv_at hl 2 rfl) ?_
    have hPc := hP.sub (ws' := [(h, .inr (1, [.ref a1, .ref a2, .ref a3, .int n, .ref a4, .int k, .ref a5]))]) [0] rfl
    refine W.callV (W.runV (As := [.int b]) (rest := []) ⟨hx, hb, hml, hown, hg⟩ (k_X_isAmount l dC dI cJ cI cT h a1 a2 a3 a4 a5 n k b) (q_V 1 hg wg_66 wg_64 wg_65 wg_0 wg_13 rfl rfl (by decide +kernel) ⟨Nat.le_of_ble_eq_true rfl, Nat.le_of_ble_eq_true rfl⟩) ⟨wd_blind, va_recv hK hPc (ci := 1) (q0 := 0) rfl rfl, wd_pre (as := .ref h :: [.int b]) hPc hK⟩ rfl rfl hl.1 rfl (lv_room (Nat.le_of_ble_eq_true rfl)) d_X_over_10 ⟨Nat.le_of_ble_eq_true rfl, Nat.le_of_ble_eq_true rfl⟩) ?_
    refine W.eq (g2 := F0 m 13 ls (.int (f_X_isAmount b n) :: [])) rfl ?_
    refine lv_if_ne (tgt := 19) hx hb d_X_over_13 (by decide) (fun c_2 => ?_) (fun c_2 => ?_)
    · skip
      refine lv_aload_n hx hb d_X_over_19 rfl (lv_at hl 0 rfl) ?_
      refine va_get (D := (dC, dI)) (ci := 1) (v := .ref a3) (C := R_X) (T := F_X) (N := 7) hx hb hg in_X hown hK hP 0 rfl rfl 2 (by decide) (hg _ wg_48) (fun _ h9 => h9) rfl d_X_over_20 ?_
      refine lv_iload_n hx hb d_X_over_23 rfl (lv_at hl 1 rfl) ?_
      refine va_iald hx hb hK hP 3 1 rfl rfl (am_in c_1 hn) d_X_over_24 ?_
      refine lv_aload_n hx hb d_X_over_25 rfl (lv_at hl 0 rfl) ?_
      refine va_get (D := (dC, dI)) (ci := 1) (v := .ref a3) (C := R_X) (T := F_X) (N := 7) hx hb hg in_X hown hK hP 0 rfl rfl 2 (by decide) (hg _ wg_48) (fun _ h9 => h9) rfl d_X_over_26 ?_
      refine lv_iload_n hx hb d_X_over_29 rfl (lv_at hl 2 rfl) ?_
      refine va_iald hx hb hK hP 3 1 rfl rfl (am_in c_2 hn) d_X_over_30 ?_
      refine W.callV (W.runS (As := [.int (un a.toNatClampNeg), .int (un b.toNatClampNeg)]) (rest := []) ⟨hx, hb, hml, hown, hg⟩ (k_X_unitOfQuotient l (un a.toNatClampNeg) (un b.toNatClampNeg)) (q_S 2 hg wg_232 wg_230 wg_231 wg_13 rfl rfl (by decide +kernel) ⟨Nat.le_of_ble_eq_true rfl, Nat.le_of_ble_eq_true rfl⟩) ⟨nw_blind, fun _ _ _ => ⟨rfl, trivial⟩⟩ rfl rfl hl.1 rfl (lv_room (Nat.le_of_ble_eq_true rfl)) d_X_over_31 ⟨Nat.le_of_ble_eq_true rfl, Nat.le_of_ble_eq_true rfl⟩) ?_
      refine W.eq (g2 := F0 m 34 ls (.int (f_X_unitOfQuotient (un a.toNatClampNeg) (un b.toNatClampNeg)) :: [])) rfl ?_
      refine lv_topi (fun v_3 ev_3 => ?_)
      refine lv_istore_n (lv' := [(3, .int v_3), (0, .ref h), (1, .int a), (2, .int b)]) hx hb d_X_over_34 rfl hl (by decide) rfl (fun ls hl => ?_)
      refine lv_iload_n hx hb d_X_over_35 rfl (lv_at hl 0 rfl) ?_
      refine lv_iconst (v := (-1)) hx hb d_X_over_36 (by decide) ?_
      refine lv_icmp_ne (tgt := 42) hx hb d_X_over_37 (by decide) (fun c_4 => ?_) (fun c_4 => ?_)
      · skip
        refine lv_aload_n hx hb d_X_over_42 rfl (lv_at hl 1 rfl) ?_
        refine va_get (D := (dC, dI)) (ci := 1) (v := .ref a1) (C := R_X) (T := F_X) (N := 7) hx hb hg in_X hown hK hP 0 rfl rfl 0 (by decide) (hg _ wg_46) (fun _ h9 => h9) rfl d_X_over_43 ?_
        refine lv_iload_n hx hb d_X_over_46 rfl (lv_at hl 3 rfl) ?_
        refine va_lald hx hb hK hP 1 0 rfl rfl (am_in c_2 hn) d_X_over_47 ?_
        refine lv_lconst (v := 0) hx hb d_X_over_48 (by decide) ?_
        refine W.lcmp hx hb d_X_over_49 ?_
        refine lv_if_ne (tgt := 63) hx hb d_X_over_50 (by decide) (fun c_5 => ?_) (fun c_5 => ?_)
        · skip
          rw [lg_cmp_eq] at c_5
          refine lv_aload_n hx hb d_X_over_63 rfl (lv_at hl 1 rfl) ?_
          refine lv_aload_n hx hb d_X_over_64 rfl (lv_at hl 1 rfl) ?_
          refine va_get (D := (dC, dI)) (ci := 1) (v := .ref a1) (C := R_X) (T := F_X) (N := 7) hx hb hg in_X hown hK hP 0 rfl rfl 0 (by decide) (hg _ wg_46) (fun _ h9 => h9) rfl d_X_over_65 ?_
          refine lv_iload_n hx hb d_X_over_68 rfl (lv_at hl 2 rfl) ?_
          refine va_lald hx hb hK hP 1 0 rfl rfl (am_in c_1 hn) d_X_over_69 ?_
          refine lv_aload_n hx hb d_X_over_70 rfl (lv_at hl 1 rfl) ?_
          refine va_get (D := (dC, dI)) (ci := 1) (v := .ref a2) (C := R_X) (T := F_X) (N := 7) hx hb hg in_X hown hK hP 0 rfl rfl 1 (by decide) (hg _ wg_47) (fun _ h9 => h9) rfl d_X_over_71 ?_
          refine lv_iload_n hx hb d_X_over_74 rfl (lv_at hl 3 rfl) ?_
          refine va_lald hx hb hK hP 2 0 rfl rfl (am_in c_2 hn) d_X_over_75 ?_
          refine lv_lmul hx hb d_X_over_76 ?_
          refine lv_aload_n hx hb d_X_over_77 rfl (lv_at hl 1 rfl) ?_
          refine va_get (D := (dC, dI)) (ci := 1) (v := .ref a2) (C := R_X) (T := F_X) (N := 7) hx hb hg in_X hown hK hP 0 rfl rfl 1 (by decide) (hg _ wg_47) (fun _ h9 => h9) rfl d_X_over_78 ?_
          refine lv_iload_n hx hb d_X_over_81 rfl (lv_at hl 2 rfl) ?_
          refine va_lald hx hb hK hP 2 0 rfl rfl (am_in c_1 hn) d_X_over_82 ?_
          refine lv_aload_n hx hb d_X_over_83 rfl (lv_at hl 1 rfl) ?_
          refine va_get (D := (dC, dI)) (ci := 1) (v := .ref a1) (C := R_X) (T := F_X) (N := 7) hx hb hg in_X hown hK hP 0 rfl rfl 0 (by decide) (hg _ wg_46) (fun _ h9 => h9) rfl d_X_over_84 ?_
          refine lv_iload_n hx hb d_X_over_87 rfl (lv_at hl 3 rfl) ?_
          refine va_lald hx hb hK hP 1 0 rfl rfl (am_in c_2 hn) d_X_over_88 ?_
          refine lv_lmul hx hb d_X_over_89 ?_
          refine lv_iload_n hx hb d_X_over_90 rfl (lv_at hl 0 rfl) ?_
          have hPc := hP.sub (ws' := [(h, .inr (1, [.ref a1, .ref a2, .ref a3, .int n, .ref a4, .int k, .ref a5])), (a1, .inl (cJ, 500, .inr (.inl ab))), (a2, .inl (cJ, 500, .inr (.inl be))), (a3, .inl (cI, 500, .inl un))]) [0, 1, 2, 3] rfl
          have hDc := hD.sub (ws' := [(h, .inr (1, [.ref a1, .ref a2, .ref a3, .int n, .ref a4, .int k, .ref a5])), (a1, .inl (cJ, 500, .inr (.inl ab))), (a2, .inl (cJ, 500, .inr (.inl be))), (a3, .inl (cI, 500, .inl un))]) [0, 1, 2, 3] (by decide) rfl
          have hFc := va_free (wc := [(h, .inr (1, [.ref a1, .ref a2, .ref a3, .int n, .ref a4, .int k, .ref a5])), (a1, .inl (cJ, 500, .inr (.inl ab))), (a2, .inl (cJ, 500, .inr (.inl be))), (a3, .inl (cI, 500, .inl un))]) hD hS hA [0, 1, 2, 3] rfl
          refine va_calli (va_runV (As := [.long ((ab a.toNatClampNeg) * (be b.toNatClampNeg)), .long ((be a.toNatClampNeg) * (ab b.toNatClampNeg)), .int v_3]) (rest := []) ⟨hx, hb, hml, hown, hg⟩ (k_X_keep l dC dI cJ cI cT h a1 a2 a3 a4 a5 n k ab be un ((ab a.toNatClampNeg) * (be b.toNatClampNeg)) ((be a.toNatClampNeg) * (ab b.toNatClampNeg)) v_3 _ hn0) (q_V 3 hg wg_69 wg_67 wg_68 wg_1 wg_13 rfl rfl (by decide +kernel) ⟨Nat.le_of_ble_eq_true rfl, Nat.le_of_ble_eq_true rfl⟩) ⟨wx_blind, va_recv hK hPc (ci := 1) (q0 := 0) rfl rfl, wx_pre (as := .ref h :: [.long ((ab a.toNatClampNeg) * (be b.toNatClampNeg)), .long ((be a.toNatClampNeg) * (ab b.toNatClampNeg)), .int v_3]) hPc hK hDc⟩ rfl rfl hl.1 rfl (lv_room (Nat.le_of_ble_eq_true rfl)) d_X_over_91 ⟨Nat.le_of_ble_eq_true rfl, Nat.le_of_ble_eq_true rfl⟩) hS (fun q _ h => hFc q h) hFc (fun r_10 u t H1 locs ht hvm hw_11 hB hz1 hk1 hS => ?_)
          obtain ⟨ab_6, be_7, un_8, n_9⟩ := u
          obtain ⟨hP1, hK1, hD1⟩ := hB
          rw [ht] at hP1
          obtain ⟨hP, hD⟩ := va_join (wr := []) (w1 := [(h, .inr (1, [.ref a1, .ref a2, .ref a3, .int n_9, .ref a4, .int k, .ref a5])), (a1, .inl (cJ, 500, .inr (.inl ab_6))), (a2, .inl (cJ, 500, .inr (.inl be_7))), (a3, .inl (cI, 500, .inl un_8))]) hP hD [0, 1, 2, 3] [] rfl rfl (by decide) (by decide) hk1 hFc hP1 hD1
          generalize H1 = H at hP hS ⊢
          have hP : va_P (dC, dI) classes [(h, .inr (1, [.ref a1, .ref a2, .ref a3, .int n_9, .ref a4, .int k, .ref a5])), (a1, .inl (cJ, 500, .inr (.inl ab_6))), (a2, .inl (cJ, 500, .inr (.inl be_7))), (a3, .inl (cI, 500, .inl un_8))] H := hP
          have hD : va_D A [(h, .inr (1, [.ref a1, .ref a2, .ref a3, .int n_9, .ref a4, .int k, .ref a5])), (a1, .inl (cJ, 500, .inr (.inl ab_6))), (a2, .inl (cJ, 500, .inr (.inl be_7))), (a3, .inl (cI, 500, .inl un_8))] := hD
          subst ev_3
          have hP9 := hP.sub (ws' := [(h, .inr (1, [.ref a1, .ref a2, .ref a3, .int n_9, .ref a4, .int k, .ref a5])), (a1, .inl (cJ, 500, .inr (.inl ab_6))), (a2, .inl (cJ, 500, .inr (.inl be_7))), (a3, .inl (cI, 500, .inl un_8))]) [0, 1, 2, 3] rfl
          have hD9 := hD.sub (ws' := [(h, .inr (1, [.ref a1, .ref a2, .ref a3, .int n_9, .ref a4, .int k, .ref a5])), (a1, .inl (cJ, 500, .inr (.inl ab_6))), (a2, .inl (cJ, 500, .inr (.inl be_7))), (a3, .inl (cI, 500, .inl un_8))]) [0, 1, 2, 3] (by decide) rfl
          have hz : (r_10, (ab_6, be_7, un_8, n_9)) = f_X_over ab be un n a b := by unfold f_X_over; rw [if_neg c_1, if_neg c_2, if_neg c_4, if_neg c_5]; exact hw_11
          have hy : e_X_over ab be un n a b = 0 := by unfold e_X_over; rw [if_neg c_1, if_neg c_2, if_neg c_4, if_neg c_5]
          refine W.widen (k := 1) (n := 6) (Nat.le_of_ble_eq_true rfl) (Nat.le_of_ble_eq_true rfl) ?_
          refine vx_ret ?_
          exact W.iret (v := r_10) hx hb hr (fun t ht hW => ⟨⟨r_10, (ab_6, be_7, un_8, n_9), rfl, ⟨hz, hy⟩, wb_of ht hW hP9 hK hD9⟩, hS.F ht⟩) hS.2.2 d_X_over_94
        · skip
          rw [lg_cmp_eq] at c_5
          subst ev_3
          have hP9 := hP.sub (ws' := [(h, .inr (1, [.ref a1, .ref a2, .ref a3, .int n, .ref a4, .int k, .ref a5])), (a1, .inl (cJ, 500, .inr (.inl ab))), (a2, .inl (cJ, 500, .inr (.inl be))), (a3, .inl (cI, 500, .inl un))]) [0, 1, 2, 3] rfl
          have hD9 := hD.sub (ws' := [(h, .inr (1, [.ref a1, .ref a2, .ref a3, .int n, .ref a4, .int k, .ref a5])), (a1, .inl (cJ, 500, .inr (.inl ab))), (a2, .inl (cJ, 500, .inr (.inl be))), (a3, .inl (cI, 500, .inl un))]) [0, 1, 2, 3] (by decide) rfl
          exact vx_throwS (own := "LitreFractions") (cls := "java/lang/ArithmeticException") (text := "the divisor is 0") (names := ["java/lang/RuntimeException", "java/lang/Exception"]) (ik := 30) (is := 56) (ic := 34) (sa := sa) (A := A) hx hb hlt hown (by decide) (by decide) (hg _ wg_174) (hg _ wg_19) hT.2.2.2 (hat_AE hg hT.1) ot_AE hT.2.1 hT.2.2.1 hS (hl.1.trans hml.symm) d_X_over_53 d_X_over_56 d_X_over_57 d_X_over_59 d_X_over_62 (fun x hx9 => (hxt x hx9).elim) (Nat.le_of_ble_eq_true rfl) (Nat.le_of_ble_eq_true rfl) (Nat.le_of_ble_eq_true rfl) (Nat.le_of_ble_eq_true rfl) hlocks (fun t hvm hz9 hk9 => ⟨(), (by unfold e_X_over; rw [if_neg c_1, if_neg c_2, if_neg c_4, if_pos c_5]), ⟨rfl, hP9.kept (fun k x hx => hk9 x.1 (hP9 k x hx).lt), va_K.moved hvm hK, hD9⟩, Nat.le_trans hS.1 hz9, fun q h1 h2 => (hk9 q (Nat.lt_of_lt_of_le h1 hS.1)).trans (hS.2.1 q h1 h2)⟩) hS.2.2 (Nat.le_of_ble_eq_true rfl) (Nat.le_of_ble_eq_true rfl)
      · skip
        refine lv_iconst (v := (-1)) hx hb d_X_over_40 (by decide) ?_
        subst ev_3
        have hP9 := hP.sub (ws' := [(h, .inr (1, [.ref a1, .ref a2, .ref a3, .int n, .ref a4, .int k, .ref a5])), (a1, .inl (cJ, 500, .inr (.inl ab))), (a2, .inl (cJ, 500, .inr (.inl be))), (a3, .inl (cI, 500, .inl un))]) [0, 1, 2, 3] rfl
        have hD9 := hD.sub (ws' := [(h, .inr (1, [.ref a1, .ref a2, .ref a3, .int n, .ref a4, .int k, .ref a5])), (a1, .inl (cJ, 500, .inr (.inl ab))), (a2, .inl (cJ, 500, .inr (.inl be))), (a3, .inl (cI, 500, .inl un))]) [0, 1, 2, 3] (by decide) rfl
        have hz : ((-1), (ab, be, un, n)) = f_X_over ab be un n a b := by unfold f_X_over; rw [if_neg c_1, if_neg c_2, if_pos c_4]
        have hy : e_X_over ab be un n a b = 0 := by unfold e_X_over; rw [if_neg c_1, if_neg c_2, if_pos c_4]
        refine W.widen (k := 1) (n := 6) (Nat.le_of_ble_eq_true rfl) (Nat.le_of_ble_eq_true rfl) ?_
        refine vx_ret ?_
        exact W.iret (v := (-1)) hx hb hr (fun t ht hW => ⟨⟨(-1), (ab, be, un, n), rfl, ⟨hz, hy⟩, wb_of ht hW hP9 hK hD9⟩, hS.F ht⟩) hS.2.2 d_X_over_41
    · skip
      refine lv_bipush (v := (-3)) hx hb d_X_over_16 (by decide) ?_
      have hP9 := hP.sub (ws' := [(h, .inr (1, [.ref a1, .ref a2, .ref a3, .int n, .ref a4, .int k, .ref a5])), (a1, .inl (cJ, 500, .inr (.inl ab))), (a2, .inl (cJ, 500, .inr (.inl be))), (a3, .inl (cI, 500, .inl un))]) [0, 1, 2, 3] rfl
      have hD9 := hD.sub (ws' := [(h, .inr (1, [.ref a1, .ref a2, .ref a3, .int n, .ref a4, .int k, .ref a5])), (a1, .inl (cJ, 500, .inr (.inl ab))), (a2, .inl (cJ, 500, .inr (.inl be))), (a3, .inl (cI, 500, .inl un))]) [0, 1, 2, 3] (by decide) rfl
      have hz : ((-3), (ab, be, un, n)) = f_X_over ab be un n a b := by unfold f_X_over; rw [if_neg c_1, if_pos c_2]
      have hy : e_X_over ab be un n a b = 0 := by unfold e_X_over; rw [if_neg c_1, if_pos c_2]
      refine W.widen (k := 1) (n := 6) (Nat.le_of_ble_eq_true rfl) (Nat.le_of_ble_eq_true rfl) ?_
      refine vx_ret ?_
      exact W.iret (v := (-3)) hx hb hr (fun t ht hW => ⟨⟨(-3), (ab, be, un, n), rfl, ⟨hz, hy⟩, wb_of ht hW hP9 hK hD9⟩, hS.F ht⟩) hS.2.2 d_X_over_18
def f_X_digit (ab be : Nat → Int64) (n a pa i : Int32) : Int32 := if (f_X_isAmount a n) = 0 then (-3) else if pa = 0 then if (f_X_digitBefore (f_X_quotientDown (if 0 < (ab a.toNatClampNeg) then (ab a.toNatClampNeg) else -(ab a.toNatClampNeg)) (be a.toNatClampNeg)) i) = (-1) then 0 else (f_X_digitBefore (f_X_quotientDown (if 0 < (ab a.toNatClampNeg) then (ab a.toNatClampNeg) else -(ab a.toNatClampNeg)) (be a.toNatClampNeg)) i) else if (f_X_digitBehind (f_X_restOf (if 0 < (ab a.toNatClampNeg) then (ab a.toNatClampNeg) else -(ab a.toNatClampNeg)) (be a.toNatClampNeg)) (be a.toNatClampNeg) i) = (-1) then 0 else (f_X_digitBehind (f_X_restOf (if 0 < (ab a.toNatClampNeg) then (ab a.toNatClampNeg) else -(ab a.toNatClampNeg)) (be a.toNatClampNeg)) (be a.toNatClampNeg) i)
def e_X_digit (ab be : Nat → Int64) (n a pa i : Int32) : Int32 := if (f_X_isAmount a n) = 0 then 0 else if pa = 0 then if (f_X_digitBefore (f_X_quotientDown (if 0 < (ab a.toNatClampNeg) then (ab a.toNatClampNeg) else -(ab a.toNatClampNeg)) (be a.toNatClampNeg)) i) = (-1) then 1 else 0 else if (f_X_digitBehind (f_X_restOf (if 0 < (ab a.toNatClampNeg) then (ab a.toNatClampNeg) else -(ab a.toNatClampNeg)) (be a.toNatClampNeg)) (be a.toNatClampNeg) i) = (-1) then 1 else 0
set_option maxHeartbeats 4000000 in
set_option maxRecDepth 100000 in
theorem k_X_digit (l : Launch) (hlt : l.stackTraces = false) (dC : Nat → ClassId) (dI : Nat → Nat → Nat) (cJ cI cT : ClassId) (h a1 a2 a3 a4 a5 : Nat) (n k : Int32) (ab be : Nat → Int64) (a pa i : Int32) (sa : Nat) (sz : Nat) (hn : n.toInt ≤ (500 : Nat)) : vx_Met l y_X_digit w_X_digit ({ frames := 6, cells := 1, slots := 6, locals := 90 }) (va_Pc [.ref h, .int a, .int pa, .int i] (fun U => wx dC dI cJ cI cT sz [(h, .inr (1, [.ref a1, .ref a2, .ref a3, .int n, .ref a4, .int k, .ref a5])), (a1, .inl (cJ, 500, .inr (.inl ab))), (a2, .inl (cJ, 500, .inr (.inl be)))] U ∧ thr (va_A [(h, .inr (1, [.ref a1, .ref a2, .ref a3, .int n, .ref a4, .int k, .ref a5])), (a1, .inl (cJ, 500, .inr (.inl ab))), (a2, .inl (cJ, 500, .inr (.inl be)))] sz) 132 "there is no such digit" sa U)) (va_Qi (fun (r9 : Int32) (u9 : Unit) => r9 = f_X_digit ab be n a pa i ∧ e_X_digit ab be n a pa i = 0) (fun u => wb dC dI cJ cI cT (va_A [(h, .inr (1, [.ref a1, .ref a2, .ref a3, .int n, .ref a4, .int k, .ref a5])), (a1, .inl (cJ, 500, .inr (.inl ab))), (a2, .inl (cJ, 500, .inr (.inl be)))] sz) [(h, .inr (1, [.ref a1, .ref a2, .ref a3, .int n, .ref a4, .int k, .ref a5])), (a1, .inl (cJ, 500, .inr (.inl ab))), (a2, .inl (cJ, 500, .inr (.inl be)))]) (va_A [(h, .inr (1, [.ref a1, .ref a2, .ref a3, .int n, .ref a4, .int k, .ref a5])), (a1, .inl (cJ, 500, .inr (.inl ab))), (a2, .inl (cJ, 500, .inr (.inl be)))] sz)) (vx_X (fun (_ : Unit) => e_X_digit ab be n a pa i = 1) (fun E _ t => E = "java/lang/IndexOutOfBoundsException" ∧ wb dC dI cJ cI cT (va_A [(h, .inr (1, [.ref a1, .ref a2, .ref a3, .int n, .ref a4, .int k, .ref a5])), (a1, .inl (cJ, 500, .inr (.inl ab))), (a2, .inl (cJ, 500, .inr (.inl be)))] sz) [(h, .inr (1, [.ref a1, .ref a2, .ref a3, .int n, .ref a4, .int k, .ref a5])), (a1, .inl (cJ, 500, .inr (.inl ab))), (a2, .inl (cJ, 500, .inr (.inl be)))] t) (va_A [(h, .inr (1, [.ref a1, .ref a2, .ref a3, .int n, .ref a4, .int k, .ref a5])), (a1, .inl (cJ, 500, .inr (.inl ab))), (a2, .inl (cJ, 500, .inr (.inl be)))] sz)) 1 6 (va_A [(h, .inr (1, [.ref a1, .ref a2, .ref a3, .int n, .ref a4, .int k, .ref a5])), (a1, .inl (cJ, 500, .inr (.inl ab))), (a2, .inl (cJ, 500, .inr (.inl be)))] sz) := by
  refine vx_ofW (cc := c_X_digit) (maxL := 9) (ret := (Option.some Jvm.ClassFile.FieldType.int)) (by decide) rfl ?_
  intro p e s m args below meth c s₁ B hml hxt hv
  obtain ⟨rfl, ⟨hsz, hP, hK, hD0⟩, hT⟩ := hv
  have hx := B.exec
  have hb := B.bytes
  have hr := B.returns
  have hts := atoms_spec (ws := w_X_digit) B.pre
  have hg : ∀ w ∈ WG, w.before _ s = true := fun w h => hts w (List.mem_cons_of_mem _ h)
  have hown : s.vm.findClass R_X = some m.cls := findClass_of_methodNamed B.named
  have hlocks := B.notSynchronized
  have hl := lv_entry ([.ref h, .int a, .int pa, .int i]) (n := 9) (Nat.le_of_ble_eq_true rfl)
  rw [lg_entry_eq]
  generalize (lg_sl ([.ref h, .int a, .int pa, .int i]) ++ List.replicate (9 - (lg_sl ([.ref h, .int a, .int pa, .int i])).length) Slot.unset).toArray = ls at hl ⊢
  have hl : lv_has ls 9 [(0, .ref h), (1, .int a), (2, .int pa), (3, .int i)] := hl
  subst hsz
  have hD := hD0.self (sz := s.heap.size)
  generalize hAe : va_A [(h, .inr (1, [.ref a1, .ref a2, .ref a3, .int n, .ref a4, .int k, .ref a5])), (a1, .inl (cJ, 500, .inr (.inl ab))), (a2, .inl (cJ, 500, .inr (.inl be)))] s.heap.size = A at hD hT ⊢
  have hA : ∀ q : Nat, s.heap.size ≤ q → A q := fun q h => by rw [← hAe]; exact Or.inr h
  have hS : va_S A s.heap s.heap [] := va_S.rf
  have hP : va_P (dC, dI) classes [(h, .inr (1, [.ref a1, .ref a2, .ref a3, .int n, .ref a4, .int k, .ref a5])), (a1, .inl (cJ, 500, .inr (.inl ab))), (a2, .inl (cJ, 500, .inr (.inl be)))] s.heap := hP
  have hD : va_D A [(h, .inr (1, [.ref a1, .ref a2, .ref a3, .int n, .ref a4, .int k, .ref a5])), (a1, .inl (cJ, 500, .inr (.inl ab))), (a2, .inl (cJ, 500, .inr (.inl be)))] := hD
  refine lv_aload_n hx hb d_X_digit_0 rfl (lv_at hl 0 rfl) ?_
  refine lv_iload_n hx hb d_X_digit_1 rfl (lv_at hl 1 rfl) ?_
  have hPc := hP.sub (ws' := [(h, .inr (1, [.ref a1, .ref a2, .ref a3, .int n, .ref a4, .int k, .ref a5]))]) [0] rfl
  refine W.callV (W.runV (As := [.int a]) (rest := []) ⟨hx, hb, hml, hown, hg⟩ (k_X_isAmount l dC dI cJ cI cT h a1 a2 a3 a4 a5 n k a) (q_V 1 hg wg_66 wg_64 wg_65 wg_0 wg_13 rfl rfl (by decide +kernel) ⟨Nat.le_of_ble_eq_true rfl, Nat.le_of_ble_eq_true rfl⟩) ⟨wd_blind, va_recv hK hPc (ci := 1) (q0 := 0) rfl rfl, wd_pre (as := .ref h :: [.int a]) hPc hK⟩ rfl rfl hl.1 rfl (lv_room (Nat.le_of_ble_eq_true rfl)) d_X_digit_2 ⟨Nat.le_of_ble_eq_true rfl, Nat.le_of_ble_eq_true rfl⟩) ?_
  refine W.eq (g2 := F0 m 5 ls (.int (f_X_isAmount a n) :: [])) rfl ?_
  refine lv_if_ne (tgt := 11) hx hb d_X_digit_5 (by decide) (fun c_1 => ?_) (fun c_1 => ?_)
  · skip
    refine lv_aload_n hx hb d_X_digit_11 rfl (lv_at hl 0 rfl) ?_
    refine va_get (D := (dC, dI)) (ci := 1) (v := .ref a1) (C := R_X) (T := F_X) (N := 7) hx hb hg in_X hown hK hP 0 rfl rfl 0 (by decide) (hg _ wg_46) (fun _ h9 => h9) rfl d_X_digit_12 ?_
    refine lv_iload_n hx hb d_X_digit_15 rfl (lv_at hl 1 rfl) ?_
    refine va_lald hx hb hK hP 1 0 rfl rfl (am_in c_1 hn) d_X_digit_16 ?_
    refine va_mabs_long hx hb (hml.trans hl.1.symm) hown (hg _ wg_73) (hg _ wg_74) (hg _ wg_20) (hg _ wg_75) (Nat.le_of_ble_eq_true rfl) (Nat.le_of_ble_eq_true rfl) (Nat.zero_le _) (Nat.zero_le _) d_X_digit_17 ?_
    refine lv_topl (fun v_2 ev_2 => ?_)
    refine lv_lstore (lv' := [(4, .long v_2), (0, .ref h), (1, .int a), (2, .int pa), (3, .int i)]) hx hb d_X_digit_20 hl (by decide) rfl (fun ls hl => ?_)
    refine lv_aload_n hx hb d_X_digit_22 rfl (lv_at hl 1 rfl) ?_
    refine va_get (D := (dC, dI)) (ci := 1) (v := .ref a2) (C := R_X) (T := F_X) (N := 7) hx hb hg in_X hown hK hP 0 rfl rfl 1 (by decide) (hg _ wg_47) (fun _ h9 => h9) rfl d_X_digit_23 ?_
    refine lv_iload_n hx hb d_X_digit_26 rfl (lv_at hl 2 rfl) ?_
    refine va_lald hx hb hK hP 2 0 rfl rfl (am_in c_1 hn) d_X_digit_27 ?_
    refine lv_topl (fun v_3 ev_3 => ?_)
    refine lv_lstore (lv' := [(6, .long v_3), (4, .long v_2), (0, .ref h), (1, .int a), (2, .int pa), (3, .int i)]) hx hb d_X_digit_28 hl (by decide) rfl (fun ls hl => ?_)
    refine lv_iload_n hx hb d_X_digit_30 rfl (lv_at hl 4 rfl) ?_
    refine lv_if_ne (tgt := 48) hx hb d_X_digit_31 (by decide) (fun c_4 => ?_) (fun c_4 => ?_)
    · skip
      refine lv_lload hx hb d_X_digit_48 (lv_at hl 1 rfl) ?_
      refine lv_lload hx hb d_X_digit_50 (lv_at hl 0 rfl) ?_
      refine W.callV (W.runS (As := [.long v_2, .long v_3]) (rest := []) ⟨hx, hb, hml, hown, hg⟩ (k_X_restOf l v_2 v_3) (q_S 2 hg wg_101 wg_99 wg_100 wg_13 rfl rfl (by decide +kernel) ⟨Nat.le_of_ble_eq_true rfl, Nat.le_of_ble_eq_true rfl⟩) ⟨nw_blind, fun _ _ _ => ⟨rfl, trivial⟩⟩ rfl rfl hl.1 rfl (lv_room (Nat.le_of_ble_eq_true rfl)) d_X_digit_52 ⟨Nat.le_of_ble_eq_true rfl, Nat.le_of_ble_eq_true rfl⟩) ?_
      refine W.eq (g2 := F0 m 55 ls (.long (f_X_restOf v_2 v_3) :: [])) rfl ?_
      refine lv_lload hx hb d_X_digit_55 (lv_at hl 0 rfl) ?_
      refine lv_iload_n hx hb d_X_digit_57 rfl (lv_at hl 5 rfl) ?_
      refine W.callV (W.runS (As := [.long (f_X_restOf v_2 v_3), .long v_3, .int i]) (rest := []) ⟨hx, hb, hml, hown, hg⟩ (k_X_digitBehind l (f_X_restOf v_2 v_3) v_3 i) (q_S 3 hg wg_246 wg_244 wg_245 wg_13 rfl rfl (by decide +kernel) ⟨Nat.le_of_ble_eq_true rfl, Nat.le_of_ble_eq_true rfl⟩) ⟨nw_blind, fun _ _ _ => ⟨rfl, trivial⟩⟩ rfl rfl hl.1 rfl (lv_room (Nat.le_of_ble_eq_true rfl)) d_X_digit_58 ⟨Nat.le_of_ble_eq_true rfl, Nat.le_of_ble_eq_true rfl⟩) ?_
      refine W.eq (g2 := F0 m 61 ls (.int (f_X_digitBehind (f_X_restOf v_2 v_3) v_3 i) :: [])) rfl ?_
      refine lv_topi (fun v_5 ev_5 => ?_)
      refine lv_istore (lv' := [(8, .int v_5), (6, .long v_3), (4, .long v_2), (0, .ref h), (1, .int a), (2, .int pa), (3, .int i)]) hx hb d_X_digit_61 hl (by decide) rfl (fun ls hl => ?_)
      refine lv_iload hx hb d_X_digit_63 (lv_at hl 0 rfl) ?_
      refine lv_iconst (v := (-1)) hx hb d_X_digit_65 (by decide) ?_
      refine lv_icmp_ne (tgt := 79) hx hb d_X_digit_66 (by decide) (fun c_6 => ?_) (fun c_6 => ?_)
      · skip
        refine lv_iload hx hb d_X_digit_79 (lv_at hl 0 rfl) ?_
        subst ev_5
        subst ev_3
        subst ev_2
        have hP9 := hP.sub (ws' := [(h, .inr (1, [.ref a1, .ref a2, .ref a3, .int n, .ref a4, .int k, .ref a5])), (a1, .inl (cJ, 500, .inr (.inl ab))), (a2, .inl (cJ, 500, .inr (.inl be)))]) [0, 1, 2] rfl
        have hD9 := hD.sub (ws' := [(h, .inr (1, [.ref a1, .ref a2, .ref a3, .int n, .ref a4, .int k, .ref a5])), (a1, .inl (cJ, 500, .inr (.inl ab))), (a2, .inl (cJ, 500, .inr (.inl be)))]) [0, 1, 2] (by decide) rfl
        have hz : (f_X_digitBehind (f_X_restOf (if 0 < (ab a.toNatClampNeg) then (ab a.toNatClampNeg) else -(ab a.toNatClampNeg)) (be a.toNatClampNeg)) (be a.toNatClampNeg) i) = f_X_digit ab be n a pa i := by unfold f_X_digit; rw [if_neg c_1, if_neg c_4, if_neg c_6]
        have hy : e_X_digit ab be n a pa i = 0 := by unfold e_X_digit; rw [if_neg c_1, if_neg c_4, if_neg c_6]
        refine W.widen (k := 1) (n := 6) (Nat.le_of_ble_eq_true rfl) (Nat.le_of_ble_eq_true rfl) ?_
        refine vx_ret ?_
        exact W.iret (v := (f_X_digitBehind (f_X_restOf (if 0 < (ab a.toNatClampNeg) then (ab a.toNatClampNeg) else -(ab a.toNatClampNeg)) (be a.toNatClampNeg)) (be a.toNatClampNeg) i)) hx hb hr (fun t ht hW => ⟨⟨(f_X_digitBehind (f_X_restOf (if 0 < (ab a.toNatClampNeg) then (ab a.toNatClampNeg) else -(ab a.toNatClampNeg)) (be a.toNatClampNeg)) (be a.toNatClampNeg) i), (), rfl, ⟨hz, hy⟩, wb_of ht hW hP9 hK hD9⟩, hS.F ht⟩) hS.2.2 d_X_digit_81
      · skip
        subst ev_5
        subst ev_3
        subst ev_2
        have hP9 := hP.sub (ws' := [(h, .inr (1, [.ref a1, .ref a2, .ref a3, .int n, .ref a4, .int k, .ref a5])), (a1, .inl (cJ, 500, .inr (.inl ab))), (a2, .inl (cJ, 500, .inr (.inl be)))]) [0, 1, 2] rfl
        have hD9 := hD.sub (ws' := [(h, .inr (1, [.ref a1, .ref a2, .ref a3, .int n, .ref a4, .int k, .ref a5])), (a1, .inl (cJ, 500, .inr (.inl ab))), (a2, .inl (cJ, 500, .inr (.inl be)))]) [0, 1, 2] (by decide) rfl
        exact vx_throwS (own := "LitreFractions") (cls := "java/lang/IndexOutOfBoundsException") (text := "there is no such digit") (names := ["java/lang/RuntimeException", "java/lang/Exception"]) (ik := 130) (is := 132) (ic := 134) (sa := sa) (A := A) hx hb hlt hown (by decide) (by decide) (hg _ wg_247) (hg _ wg_22) hT.2.2.2 (hat_IE hg hT.1) ot_IE hT.2.1 hT.2.2.1 hS (hl.1.trans hml.symm) d_X_digit_69 d_X_digit_72 d_X_digit_73 d_X_digit_75 d_X_digit_78 (fun x hx9 => (hxt x hx9).elim) (Nat.le_of_ble_eq_true rfl) (Nat.le_of_ble_eq_true rfl) (Nat.le_of_ble_eq_true rfl) (Nat.le_of_ble_eq_true rfl) hlocks (fun t hvm hz9 hk9 => ⟨(), (by unfold e_X_digit; rw [if_neg c_1, if_neg c_4, if_pos c_6]), ⟨rfl, hP9.kept (fun k x hx => hk9 x.1 (hP9 k x hx).lt), va_K.moved hvm hK, hD9⟩, Nat.le_trans hS.1 hz9, fun q h1 h2 => (hk9 q (Nat.lt_of_lt_of_le h1 hS.1)).trans (hS.2.1 q h1 h2)⟩) hS.2.2 (Nat.le_of_ble_eq_true rfl) (Nat.le_of_ble_eq_true rfl)
    · skip
      refine lv_lload hx hb d_X_digit_34 (lv_at hl 1 rfl) ?_
      refine lv_lload hx hb d_X_digit_36 (lv_at hl 0 rfl) ?_
      refine W.callV (W.runS (As := [.long v_2, .long v_3]) (rest := []) ⟨hx, hb, hml, hown, hg⟩ (k_X_quotientDown l v_2 v_3) (q_S 2 hg wg_95 wg_93 wg_94 wg_13 rfl rfl (by decide +kernel) ⟨Nat.le_of_ble_eq_true rfl, Nat.le_of_ble_eq_true rfl⟩) ⟨nw_blind, fun _ _ _ => ⟨rfl, trivial⟩⟩ rfl rfl hl.1 rfl (lv_room (Nat.le_of_ble_eq_true rfl)) d_X_digit_38 ⟨Nat.le_of_ble_eq_true rfl, Nat.le_of_ble_eq_true rfl⟩) ?_
      refine W.eq (g2 := F0 m 41 ls (.long (f_X_quotientDown v_2 v_3) :: [])) rfl ?_
      refine lv_iload_n hx hb d_X_digit_41 rfl (lv_at hl 5 rfl) ?_
      refine W.callV (W.runS (As := [.long (f_X_quotientDown v_2 v_3), .int i]) (rest := []) ⟨hx, hb, hml, hown, hg⟩ (k_X_digitBefore l (f_X_quotientDown v_2 v_3) i) (q_S 2 hg wg_242 wg_240 wg_241 wg_13 rfl rfl (by decide +kernel) ⟨Nat.le_of_ble_eq_true rfl, Nat.le_of_ble_eq_true rfl⟩) ⟨nw_blind, fun _ _ _ => ⟨rfl, trivial⟩⟩ rfl rfl hl.1 rfl (lv_room (Nat.le_of_ble_eq_true rfl)) d_X_digit_42 ⟨Nat.le_of_ble_eq_true rfl, Nat.le_of_ble_eq_true rfl⟩) ?_
      refine W.eq (g2 := F0 m 45 ls (.int (f_X_digitBefore (f_X_quotientDown v_2 v_3) i) :: [])) rfl ?_
      refine lv_goto (tgt := 61) hx hb d_X_digit_45 (by decide) ?_
      refine lv_topi (fun v_7 ev_7 => ?_)
      refine lv_istore (lv' := [(8, .int v_7), (6, .long v_3), (4, .long v_2), (0, .ref h), (1, .int a), (2, .int pa), (3, .int i)]) hx hb d_X_digit_61 hl (by decide) rfl (fun ls hl => ?_)
      refine lv_iload hx hb d_X_digit_63 (lv_at hl 0 rfl) ?_
      refine lv_iconst (v := (-1)) hx hb d_X_digit_65 (by decide) ?_
      refine lv_icmp_ne (tgt := 79) hx hb d_X_digit_66 (by decide) (fun c_8 => ?_) (fun c_8 => ?_)
      · skip
        refine lv_iload hx hb d_X_digit_79 (lv_at hl 0 rfl) ?_
        subst ev_7
        subst ev_3
        subst ev_2
        have hP9 := hP.sub (ws' := [(h, .inr (1, [.ref a1, .ref a2, .ref a3, .int n, .ref a4, .int k, .ref a5])), (a1, .inl (cJ, 500, .inr (.inl ab))), (a2, .inl (cJ, 500, .inr (.inl be)))]) [0, 1, 2] rfl
        have hD9 := hD.sub (ws' := [(h, .inr (1, [.ref a1, .ref a2, .ref a3, .int n, .ref a4, .int k, .ref a5])), (a1, .inl (cJ, 500, .inr (.inl ab))), (a2, .inl (cJ, 500, .inr (.inl be)))]) [0, 1, 2] (by decide) rfl
        have hz : (f_X_digitBefore (f_X_quotientDown (if 0 < (ab a.toNatClampNeg) then (ab a.toNatClampNeg) else -(ab a.toNatClampNeg)) (be a.toNatClampNeg)) i) = f_X_digit ab be n a pa i := by unfold f_X_digit; rw [if_neg c_1, if_pos c_4, if_neg c_8]
        have hy : e_X_digit ab be n a pa i = 0 := by unfold e_X_digit; rw [if_neg c_1, if_pos c_4, if_neg c_8]
        refine W.widen (k := 1) (n := 6) (Nat.le_of_ble_eq_true rfl) (Nat.le_of_ble_eq_true rfl) ?_
        refine vx_ret ?_
        exact W.iret (v := (f_X_digitBefore (f_X_quotientDown (if 0 < (ab a.toNatClampNeg) then (ab a.toNatClampNeg) else -(ab a.toNatClampNeg)) (be a.toNatClampNeg)) i)) hx hb hr (fun t ht hW => ⟨⟨(f_X_digitBefore (f_X_quotientDown (if 0 < (ab a.toNatClampNeg) then (ab a.toNatClampNeg) else -(ab a.toNatClampNeg)) (be a.toNatClampNeg)) i), (), rfl, ⟨hz, hy⟩, wb_of ht hW hP9 hK hD9⟩, hS.F ht⟩) hS.2.2 d_X_digit_81
      · skip
        subst ev_7
        subst ev_3
        subst ev_2
        have hP9 := hP.sub (ws' := [(h, .inr (1, [.ref a1, .ref a2, .ref a3, .int n, .ref a4, .int k, .ref a5])), (a1, .inl (cJ, 500, .inr (.inl ab))), (a2, .inl (cJ, 500, .inr (.inl be)))]) [0, 1, 2] rfl
        have hD9 := hD.sub (ws' := [(h, .inr (1, [.ref a1, .ref a2, .ref a3, .int n, .ref a4, .int k, .ref a5])), (a1, .inl (cJ, 500, .inr (.inl ab))), (a2, .inl (cJ, 500, .inr (.inl be)))]) [0, 1, 2] (by decide) rfl
        exact vx_throwS (own := "LitreFractions") (cls := "java/lang/IndexOutOfBoundsException") (text := "there is no such digit") (names := ["java/lang/RuntimeException", "java/lang/Exception"]) (ik := 130) (is := 132) (ic := 134) (sa := sa) (A := A) hx hb hlt hown (by decide) (by decide) (hg _ wg_247) (hg _ wg_22) hT.2.2.2 (hat_IE hg hT.1) ot_IE hT.2.1 hT.2.2.1 hS (hl.1.trans hml.symm) d_X_digit_69 d_X_digit_72 d_X_digit_73 d_X_digit_75 d_X_digit_78 (fun x hx9 => (hxt x hx9).elim) (Nat.le_of_ble_eq_true rfl) (Nat.le_of_ble_eq_true rfl) (Nat.le_of_ble_eq_true rfl) (Nat.le_of_ble_eq_true rfl) hlocks (fun t hvm hz9 hk9 => ⟨(), (by unfold e_X_digit; rw [if_neg c_1, if_pos c_4, if_pos c_8]), ⟨rfl, hP9.kept (fun k x hx => hk9 x.1 (hP9 k x hx).lt), va_K.moved hvm hK, hD9⟩, Nat.le_trans hS.1 hz9, fun q h1 h2 => (hk9 q (Nat.lt_of_lt_of_le h1 hS.1)).trans (hS.2.1 q h1 h2)⟩) hS.2.2 (Nat.le_of_ble_eq_true rfl) (Nat.le_of_ble_eq_true rfl)
  · skip
    refine lv_bipush (v := (-3)) hx hb d_X_digit_8 (by decide) ?_
    have hP9 := hP.sub (ws' := [(h, .inr (1, [.ref a1, .ref a2, .ref a3, .int n, .ref a4, .int k, .ref a5])), (a1, .inl (cJ, 500, .inr (.inl ab))), (a2, .inl (cJ, 500, .inr (.inl be)))]) [0, 1, 2] rfl
    have hD9 := hD.sub (ws' := [(h, .inr (1, [.ref a1, .ref a2, .ref a3, .int n, .ref a4, .int k, .ref a5])), (a1, .inl (cJ, 500, .inr (.inl ab))), (a2, .inl (cJ, 500, .inr (.inl be)))]) [0, 1, 2] (by decide) rfl
    have hz : (-3) = f_X_digit ab be n a pa i := by unfold f_X_digit; rw [if_pos c_1]
    have hy : e_X_digit ab be n a pa i = 0 := by unfold e_X_digit; rw [if_pos c_1]
    refine W.widen (k := 1) (n := 6) (Nat.le_of_ble_eq_true rfl) (Nat.le_of_ble_eq_true rfl) ?_
    refine vx_ret ?_
    exact W.iret (v := (-3)) hx hb hr (fun t ht hW => ⟨⟨(-3), (), rfl, ⟨hz, hy⟩, wb_of ht hW hP9 hK hD9⟩, hS.F ht⟩) hS.2.2 d_X_digit_10
