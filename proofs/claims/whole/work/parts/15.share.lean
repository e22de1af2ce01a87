/-- one more comes before, or not -/
def th_s (rest o y : Int64) (kx i : Int32) : Int64 := if rest < o then y + 1 else if o = rest then if kx ≤ i then y else y + 1 else y
/-- the sum of the rests, and how many come before -/
def th_L (we : Nat → Int64) (t all rest : Int64) (kx : Int32) : Nat → Nat → Int64 → Int64 → Int64 × Int64
  | 0, _, x, y => (x, y)
  | n + 1, j, x, y => th_L we t all rest kx n (j + 1) (x + f_X_restOf (t * we j) all) (th_s rest (f_X_restOf (t * we j) all) y kx (nI j))
set_option maxHeartbeats 4000000 in
set_option maxRecDepth 100000 in
theorem lp_X_thousandthsOf {p : Program} {l : Launch} {e : Env} {R : Room} {s : State} {m : MethodId} {args : Array Value} {below : List Frame} {meth : Method} {c : Code} {H : Heap} {locs : List Loc} {cells slots : Nat} {Q : State → Prop} {dC : Nat → ClassId} {dI : Nat → Nat → Nat} {cJ cI cT : ClassId} {h a1 a2 a3 a4 a5 : Nat} {n k : Int32} {we : Nat → Int64} {kx : Int32} {t all rest gr : Int64} (hx : p.tables.exec = Jvm.exec) (hb : c.code = c_X_thousandthsOf) (hg : ∀ w ∈ WG, w.before args s = true) (hown : s.vm.findClass R_X = some m.cls) (hml : c.maxLocals = 18) (hR : 1 + 1 ≤ R.frames ∧ 8 + (4 + 11) + 25 ≤ R.locals) (hc : cells ≤ R.cells) (hs : slots ≤ R.slots) (hK : va_K (dC, dI) classes (TY cJ cI cT) s) : ∀ (q j : Nat) (x y : Int64) (ls : Array Slot), va_P (dC, dI) classes [(h, .inr (1, [.ref a1, .ref a2, .ref a3, .int n, .ref a4, .int (nI (j + q)), .ref a5])), (a4, .inl (cJ, 16, .inr (.inl we)))] H → j + q ≤ 16 → lv_has ls 18 [(0, .ref h), (1, .int kx), (2, .long t), (4, .long all), (6, .long gr), (8, .long rest), (10, .long x), (12, .long y), (14, .int (nI j))] → (∀ ls' : Array Slot, lv_has ls' 18 [(4, .long all), (6, .long gr), (10, .long (th_L we t all rest kx q j x y).1), (12, .long (th_L we t all rest kx q j x y).2)] → W p l e R s m args below meth c H locs cells slots Q (F0 m 94 ls' [])) → W p l e R s m args below meth c H locs cells slots Q (F0 m 28 ls []) := by
  intro q
  induction q with
  | zero =>
    intro j x y ls hP hj hl kk
    refine lv_iload hx hb d_X_thousandthsOf_28 (lv_at hl 8 rfl) ?_
    refine lv_aload_n hx hb d_X_thousandthsOf_30 rfl (lv_at hl 0 rfl) ?_
    refine va_get (D := (dC, dI)) (ci := 1) (v := .int (nI (j + 0))) (C := R_X) (T := F_X) (N := 7) hx hb hg in_X hown hK hP 0 rfl rfl 5 (by decide) (hg _ wg_51) (fun _ h9 => h9) rfl d_X_thousandthsOf_31 ?_
    refine lv_icmp_ge (tgt := 94) hx hb d_X_thousandthsOf_34 (by decide) (fun c_1 => ?_) (fun c_1 => ?_)
    · skip
      exact kk ls (lv_sub hl [3, 4, 6, 7] rfl)
    · skip
      exact absurd (nI_le (Nat.le_refl j) (by omega)) c_1
  | succ q ih =>
    intro j x y ls hP hj hl kk
    refine lv_iload hx hb d_X_thousandthsOf_28 (lv_at hl 8 rfl) ?_
    refine lv_aload_n hx hb d_X_thousandthsOf_30 rfl (lv_at hl 0 rfl) ?_
    refine va_get (D := (dC, dI)) (ci := 1) (v := .int (nI (j + (q + 1)))) (C := R_X) (T := F_X) (N := 7) hx hb hg in_X hown hK hP 0 rfl rfl 5 (by decide) (hg _ wg_51) (fun _ h9 => h9) rfl d_X_thousandthsOf_31 ?_
    refine lv_icmp_ge (tgt := 94) hx hb d_X_thousandthsOf_34 (by decide) (fun c_1 => ?_) (fun c_1 => ?_)
    · skip
      exact absurd c_1 (nI_ge (by omega) (by omega))
    · skip
      refine lv_lload_n hx hb d_X_thousandthsOf_37 rfl (lv_at hl 2 rfl) ?_
      refine lv_aload_n hx hb d_X_thousandthsOf_38 rfl (lv_at hl 0 rfl) ?_
      refine va_get (D := (dC, dI)) (ci := 1) (v := .ref a4) (C := R_X) (T := F_X) (N := 7) hx hb hg in_X hown hK hP 0 rfl rfl 4 (by decide) (hg _ wg_50) (fun _ h9 => h9) rfl d_X_thousandthsOf_39 ?_
      refine lv_iload hx hb d_X_thousandthsOf_42 (lv_at hl 8 rfl) ?_
      refine va_lald hx hb hK hP 1 0 rfl rfl (vp_in_nI (by omega) (by decide)) d_X_thousandthsOf_44 ?_
      refine lv_lmul hx hb d_X_thousandthsOf_45 ?_
      refine lv_lload hx hb d_X_thousandthsOf_46 (lv_at hl 3 rfl) ?_
      refine W.callV (W.runS (As := [.long (t * (we (nI j).toNatClampNeg)), .long all]) (rest := []) ⟨hx, hb, hml, hown, hg⟩ (k_X_restOf l (t * (we (nI j).toNatClampNeg)) all) (q_S 2 hg wg_101 wg_99 wg_100 wg_13 rfl rfl (by decide +kernel) hR) ⟨nw_blind, fun _ _ _ => ⟨rfl, trivial⟩⟩ rfl rfl hl.1 rfl (lv_room (Nat.le_of_ble_eq_true rfl)) d_X_thousandthsOf_48 ⟨hc, hs⟩) ?_
      refine W.eq (g2 := F0 m 51 ls (.long (f_X_restOf (t * (we (nI j).toNatClampNeg)) all) :: [])) rfl ?_
      refine lv_topl (fun v_2 ev_2 => ?_)
      refine lv_lstore (lv' := [(15, .long v_2), (0, .ref h), (1, .int kx), (2, .long t), (4, .long all), (6, .long gr), (8, .long rest), (10, .long x), (12, .long y), (14, .int (nI j))]) hx hb d_X_thousandthsOf_51 hl (by decide) rfl (fun ls hl => ?_)
      refine lv_lload hx hb d_X_thousandthsOf_53 (lv_at hl 7 rfl) ?_
      refine lv_lload hx hb d_X_thousandthsOf_55 (lv_at hl 0 rfl) ?_
      refine lv_ladd hx hb d_X_thousandthsOf_57 ?_
      refine lv_topl (fun v_3 ev_3 => ?_)
      refine lv_lstore (lv' := [(10, .long v_3), (15, .long v_2), (0, .ref h), (1, .int kx), (2, .long t), (4, .long all), (6, .long gr), (8, .long rest), (12, .long y), (14, .int (nI j))]) hx hb d_X_thousandthsOf_58 hl (by decide) rfl (fun ls hl => ?_)
      refine lv_lload hx hb d_X_thousandthsOf_60 (lv_at hl 1 rfl) ?_
      refine lv_lload hx hb d_X_thousandthsOf_62 (lv_at hl 7 rfl) ?_
      refine W.lcmp hx hb d_X_thousandthsOf_64 ?_
      refine lv_if_gt (tgt := 82) hx hb d_X_thousandthsOf_65 (by decide) (fun c_4 => ?_) (fun c_4 => ?_)
      · skip
        rw [lg_cmp_gt] at c_4
        refine lv_lload hx hb d_X_thousandthsOf_82 (lv_at hl 8 rfl) ?_
        refine lv_lconst (v := 1) hx hb d_X_thousandthsOf_84 (by decide) ?_
        refine lv_ladd hx hb d_X_thousandthsOf_85 ?_
        refine lv_topl (fun v_5 ev_5 => ?_)
        refine lv_lstore (lv' := [(12, .long v_5), (10, .long v_3), (15, .long v_2), (0, .ref h), (1, .int kx), (2, .long t), (4, .long all), (6, .long gr), (8, .long rest), (14, .int (nI j))]) hx hb d_X_thousandthsOf_86 hl (by decide) rfl (fun ls hl => ?_)
        obtain ⟨v_6, ev_6⟩ : ∃ y : Int32, y = nI j + 1 := ⟨_, rfl⟩
        refine lv_iinc (v := v_6) (lv' := [(14, .int v_6), (12, .long v_5), (10, .long v_3), (15, .long v_2), (0, .ref h), (1, .int kx), (2, .long t), (4, .long all), (6, .long gr), (8, .long rest)]) hx hb d_X_thousandthsOf_88 hl (k := 9) rfl (by rw [ev_6]; rfl) (by decide) rfl (fun ls hl => ?_)
        refine lv_goto (tgt := 28) hx hb d_X_thousandthsOf_91 (by decide) ?_
        subst ev_6
        subst ev_5
        subst ev_3
        subst ev_2
        rw [nI_1] at hl
        have e2 : (nI j).toNatClampNeg = j := nI_clamp (by omega)
        try rw [e2] at c_4
        rw [e2] at hl
        have e1 : j + (q + 1) = (j + 1) + q := by omega
        rw [e1] at hP
        have ez : th_s rest (f_X_restOf (t * we j) all) y kx (nI j) = (y + 1) := by unfold th_s; rw [if_pos c_4]
        rw [show th_L we t all rest kx (q + 1) j x y = th_L we t all rest kx q (j + 1) (x + f_X_restOf (t * we j) all) ((y + 1)) from congrArg (th_L we t all rest kx q (j + 1) (x + f_X_restOf (t * we j) all)) ez] at kk
        exact ih (j + 1) _ _ ls hP (by omega) (lv_sub hl [4, 5, 6, 7, 8, 9, 2, 1, 0] rfl) kk
      · skip
        rw [lg_cmp_gt] at c_4
        refine lv_lload hx hb d_X_thousandthsOf_68 (lv_at hl 1 rfl) ?_
        refine lv_lload hx hb d_X_thousandthsOf_70 (lv_at hl 7 rfl) ?_
        refine W.lcmp hx hb d_X_thousandthsOf_72 ?_
        refine lv_if_ne (tgt := 88) hx hb d_X_thousandthsOf_73 (by decide) (fun c_7 => ?_) (fun c_7 => ?_)
        · skip
          rw [lg_cmp_eq] at c_7
          obtain ⟨v_8, ev_8⟩ : ∃ y : Int32, y = nI j + 1 := ⟨_, rfl⟩
          refine lv_iinc (v := v_8) (lv' := [(14, .int v_8), (10, .long v_3), (15, .long v_2), (0, .ref h), (1, .int kx), (2, .long t), (4, .long all), (6, .long gr), (8, .long rest), (12, .long y)]) hx hb d_X_thousandthsOf_88 hl (k := 9) rfl (by rw [ev_8]; rfl) (by decide) rfl (fun ls hl => ?_)
          refine lv_goto (tgt := 28) hx hb d_X_thousandthsOf_91 (by decide) ?_
          subst ev_8
          subst ev_3
          subst ev_2
          rw [nI_1] at hl
          have e2 : (nI j).toNatClampNeg = j := nI_clamp (by omega)
          try rw [e2] at c_4
          try rw [e2] at c_7
          rw [e2] at hl
          have e1 : j + (q + 1) = (j + 1) + q := by omega
          rw [e1] at hP
          have ez : th_s rest (f_X_restOf (t * we j) all) y kx (nI j) = y := by unfold th_s; rw [if_neg c_4, if_neg c_7]
          rw [show th_L we t all rest kx (q + 1) j x y = th_L we t all rest kx q (j + 1) (x + f_X_restOf (t * we j) all) (y) from congrArg (th_L we t all rest kx q (j + 1) (x + f_X_restOf (t * we j) all)) ez] at kk
          exact ih (j + 1) _ _ ls hP (by omega) (lv_sub hl [3, 4, 5, 6, 7, 8, 1, 9, 0] rfl) kk
        · skip
          rw [lg_cmp_eq] at c_7
          refine lv_iload hx hb d_X_thousandthsOf_76 (lv_at hl 9 rfl) ?_
          refine lv_iload_n hx hb d_X_thousandthsOf_78 rfl (lv_at hl 3 rfl) ?_
          refine lv_icmp_ge (tgt := 88) hx hb d_X_thousandthsOf_79 (by decide) (fun c_9 => ?_) (fun c_9 => ?_)
          · skip
            obtain ⟨v_10, ev_10⟩ : ∃ y : Int32, y = nI j + 1 := ⟨_, rfl⟩
            refine lv_iinc (v := v_10) (lv' := [(14, .int v_10), (10, .long v_3), (15, .long v_2), (0, .ref h), (1, .int kx), (2, .long t), (4, .long all), (6, .long gr), (8, .long rest), (12, .long y)]) hx hb d_X_thousandthsOf_88 hl (k := 9) rfl (by rw [ev_10]; rfl) (by decide) rfl (fun ls hl => ?_)
            refine lv_goto (tgt := 28) hx hb d_X_thousandthsOf_91 (by decide) ?_
            subst ev_10
            subst ev_3
            subst ev_2
            rw [nI_1] at hl
            have e2 : (nI j).toNatClampNeg = j := nI_clamp (by omega)
            try rw [e2] at c_4
            try rw [e2] at c_7
            try rw [e2] at c_9
            rw [e2] at hl
            have e1 : j + (q + 1) = (j + 1) + q := by omega
            rw [e1] at hP
            have ez : th_s rest (f_X_restOf (t * we j) all) y kx (nI j) = y := by unfold th_s; rw [if_neg c_4, if_pos c_7, if_pos c_9]
            rw [show th_L we t all rest kx (q + 1) j x y = th_L we t all rest kx q (j + 1) (x + f_X_restOf (t * we j) all) (y) from congrArg (th_L we t all rest kx q (j + 1) (x + f_X_restOf (t * we j) all)) ez] at kk
            exact ih (j + 1) _ _ ls hP (by omega) (lv_sub hl [3, 4, 5, 6, 7, 8, 1, 9, 0] rfl) kk
          · skip
            refine lv_lload hx hb d_X_thousandthsOf_82 (lv_at hl 8 rfl) ?_
            refine lv_lconst (v := 1) hx hb d_X_thousandthsOf_84 (by decide) ?_
            refine lv_ladd hx hb d_X_thousandthsOf_85 ?_
            refine lv_topl (fun v_11 ev_11 => ?_)
            refine lv_lstore (lv' := [(12, .long v_11), (10, .long v_3), (15, .long v_2), (0, .ref h), (1, .int kx), (2, .long t), (4, .long all), (6, .long gr), (8, .long rest), (14, .int (nI j))]) hx hb d_X_thousandthsOf_86 hl (by decide) rfl (fun ls hl => ?_)
            obtain ⟨v_12, ev_12⟩ : ∃ y : Int32, y = nI j + 1 := ⟨_, rfl⟩
            refine lv_iinc (v := v_12) (lv' := [(14, .int v_12), (12, .long v_11), (10, .long v_3), (15, .long v_2), (0, .ref h), (1, .int kx), (2, .long t), (4, .long all), (6, .long gr), (8, .long rest)]) hx hb d_X_thousandthsOf_88 hl (k := 9) rfl (by rw [ev_12]; rfl) (by decide) rfl (fun ls hl => ?_)
            refine lv_goto (tgt := 28) hx hb d_X_thousandthsOf_91 (by decide) ?_
            subst ev_12
            subst ev_11
            subst ev_3
            subst ev_2
            rw [nI_1] at hl
            have e2 : (nI j).toNatClampNeg = j := nI_clamp (by omega)
            try rw [e2] at c_4
            try rw [e2] at c_7
            try rw [e2] at c_9
            rw [e2] at hl
            have e1 : j + (q + 1) = (j + 1) + q := by omega
            rw [e1] at hP
            have ez : th_s rest (f_X_restOf (t * we j) all) y kx (nI j) = (y + 1) := by unfold th_s; rw [if_neg c_4, if_pos c_7, if_neg c_9]
            rw [show th_L we t all rest kx (q + 1) j x y = th_L we t all rest kx q (j + 1) (x + f_X_restOf (t * we j) all) ((y + 1)) from congrArg (th_L we t all rest kx q (j + 1) (x + f_X_restOf (t * we j) all)) ez] at kk
            exact ih (j + 1) _ _ ls hP (by omega) (lv_sub hl [4, 5, 6, 7, 8, 9, 2, 1, 0] rfl) kk
def f_X_thousandthsOf (we : Nat → Int64) (k kx : Int32) (t all : Int64) : Int64 := if (f_X_quotientDown ((th_L we t all ((f_X_restOf (t * (we kx.toNatClampNeg)) all)) kx k.toNatClampNeg 0 0 0).1) all) ≤ ((th_L we t all ((f_X_restOf (t * (we kx.toNatClampNeg)) all)) kx k.toNatClampNeg 0 0 0).2) then (f_X_quotientDown (t * (we kx.toNatClampNeg)) all) else ((f_X_quotientDown (t * (we kx.toNatClampNeg)) all) + 1)
set_option maxHeartbeats 4000000 in
set_option maxRecDepth 100000 in
theorem k_X_thousandthsOf (l : Launch) (dC : Nat → ClassId) (dI : Nat → Nat → Nat) (cJ cI cT : ClassId) (h a1 a2 a3 a4 a5 : Nat) (n k : Int32) (we : Nat → Int64) (kx : Int32) (t all : Int64) (hk0 : 0 ≤ k.toInt) (hk : k.toInt ≤ (16 : Nat)) (hq : vp_in kx 16) : Met l y_X_thousandthsOf w_X_thousandthsOf ({ frames := 2, cells := 0, slots := 0, locals := 48 }) (va_Pc [.ref h, .int kx, .long t, .long all] (wd dC dI cJ cI cT [(h, .inr (1, [.ref a1, .ref a2, .ref a3, .int n, .ref a4, .int k, .ref a5])), (a4, .inl (cJ, 16, .inr (.inl we)))])) (k2_QcV (.long (f_X_thousandthsOf we k kx t all))) 0 0 (fun _ => False) := by
  refine Met.ofW (cc := c_X_thousandthsOf) (maxL := 18) (ret := (Option.some Jvm.ClassFile.FieldType.long)) (by decide) rfl ?_
  intro p e s m args below meth c s₁ B hml hv
  obtain ⟨rfl, hP, hK⟩ := hv
  have hx := B.exec
  have hb := B.bytes
  have hr := B.returns
  have hts := atoms_spec (ws := w_X_thousandthsOf) B.pre
  have hg : ∀ w ∈ WG, w.before _ s = true := fun w h => hts w (List.mem_cons_of_mem _ h)
  have hown : s.vm.findClass R_X = some m.cls := findClass_of_methodNamed B.named
  have hlocks := B.notSynchronized
  have hl := lv_entry ([.ref h, .int kx, .long t, .long all]) (n := 18) (Nat.le_of_ble_eq_true rfl)
  rw [lg_entry_eq]
  generalize (lg_sl ([.ref h, .int kx, .long t, .long all]) ++ List.replicate (18 - (lg_sl ([.ref h, .int kx, .long t, .long all])).length) Slot.unset).toArray = ls at hl ⊢
  have hl : lv_has ls 18 [(0, .ref h), (1, .int kx), (2, .long t), (4, .long all)] := hl
  have hP : va_P (dC, dI) classes [(h, .inr (1, [.ref a1, .ref a2, .ref a3, .int n, .ref a4, .int k, .ref a5])), (a4, .inl (cJ, 16, .inr (.inl we)))] s.heap := hP
  refine lv_lload_n hx hb d_X_thousandthsOf_0 rfl (lv_at hl 2 rfl) ?_
  refine lv_aload_n hx hb d_X_thousandthsOf_1 rfl (lv_at hl 0 rfl) ?_
  refine va_get (D := (dC, dI)) (ci := 1) (v := .ref a4) (C := R_X) (T := F_X) (N := 7) hx hb hg in_X hown hK hP 0 rfl rfl 4 (by decide) (hg _ wg_50) (fun _ h9 => h9) rfl d_X_thousandthsOf_2 ?_
  refine lv_iload_n hx hb d_X_thousandthsOf_5 rfl (lv_at hl 1 rfl) ?_
  refine va_lald hx hb hK hP 1 0 rfl rfl hq d_X_thousandthsOf_6 ?_
  refine lv_lmul hx hb d_X_thousandthsOf_7 ?_
  refine lv_topl (fun v_1 ev_1 => ?_)
  refine lv_lstore (lv' := [(6, .long v_1), (0, .ref h), (1, .int kx), (2, .long t), (4, .long all)]) hx hb d_X_thousandthsOf_8 hl (by decide) rfl (fun ls hl => ?_)
  refine lv_lload hx hb d_X_thousandthsOf_10 (lv_at hl 0 rfl) ?_
  refine lv_lload hx hb d_X_thousandthsOf_12 (lv_at hl 4 rfl) ?_
  refine W.callV (W.runS (As := [.long v_1, .long all]) (rest := []) ⟨hx, hb, hml, hown, hg⟩ (k_X_restOf l v_1 all) (q_S 2 hg wg_101 wg_99 wg_100 wg_13 rfl rfl (by decide +kernel) ⟨Nat.le_of_ble_eq_true rfl, Nat.le_of_ble_eq_true rfl⟩) ⟨nw_blind, fun _ _ _ => ⟨rfl, trivial⟩⟩ rfl rfl hl.1 rfl (lv_room (Nat.le_of_ble_eq_true rfl)) d_X_thousandthsOf_14 ⟨Nat.le_of_ble_eq_true rfl, Nat.le_of_ble_eq_true rfl⟩) ?_
  refine W.eq (g2 := F0 m 17 ls (.long (f_X_restOf v_1 all) :: [])) rfl ?_
  refine lv_topl (fun v_2 ev_2 => ?_)
  refine lv_lstore (lv' := [(8, .long v_2), (6, .long v_1), (0, .ref h), (1, .int kx), (2, .long t), (4, .long all)]) hx hb d_X_thousandthsOf_17 hl (by decide) rfl (fun ls hl => ?_)
  refine lv_lconst (v := 0) hx hb d_X_thousandthsOf_19 (by decide) ?_
  refine lv_lstore (lv' := [(10, .long 0), (8, .long v_2), (6, .long v_1), (0, .ref h), (1, .int kx), (2, .long t), (4, .long all)]) hx hb d_X_thousandthsOf_20 hl (by decide) rfl (fun ls hl => ?_)
  refine lv_lconst (v := 0) hx hb d_X_thousandthsOf_22 (by decide) ?_
  refine lv_lstore (lv' := [(12, .long 0), (10, .long 0), (8, .long v_2), (6, .long v_1), (0, .ref h), (1, .int kx), (2, .long t), (4, .long all)]) hx hb d_X_thousandthsOf_23 hl (by decide) rfl (fun ls hl => ?_)
  refine lv_iconst (v := 0) hx hb d_X_thousandthsOf_25 (by decide) ?_
  refine lv_istore (lv' := [(14, .int 0), (12, .long 0), (10, .long 0), (8, .long v_2), (6, .long v_1), (0, .ref h), (1, .int kx), (2, .long t), (4, .long all)]) hx hb d_X_thousandthsOf_26 hl (by decide) rfl (fun ls hl => ?_)
  subst ev_2
  subst ev_1
  obtain ⟨q, hq9, eq9⟩ := nI_of (x := k) (fun hh => by rw [Int32.lt_iff_toInt_lt] at hh; have e0 : (0 : Int32).toInt = 0 := rfl; omega)
  have eq2 : k.toNatClampNeg = q := by rw [eq9]; exact nI_clamp hq9
  have eq3 : k.toInt = q := by rw [eq9]; exact nI_toInt hq9
  have eq4 : k = nI (0 + q) := by rw [Nat.zero_add]; exact eq9
  refine lp_X_thousandthsOf (k := k) (we := we) (gr := (t * (we kx.toNatClampNeg))) (rest := (f_X_restOf (t * (we kx.toNatClampNeg)) all)) hx hb hg hown hml ⟨Nat.le_of_ble_eq_true rfl, Nat.le_of_ble_eq_true rfl⟩ (Nat.zero_le _) (Nat.zero_le _) hK q 0 _ _ ls (by rw [← eq4]; exact hP) (by omega) (lv_sub hl [5, 6, 7, 8, 4, 3, 2, 1, 0] rfl) (fun ls hl => ?_)
  rw [← eq2] at hl
  refine lv_lload hx hb d_X_thousandthsOf_94 (lv_at hl 2 rfl) ?_
  refine lv_lload hx hb d_X_thousandthsOf_96 (lv_at hl 0 rfl) ?_
  refine W.callV (W.runS (As := [.long ((th_L we t all ((f_X_restOf (t * (we kx.toNatClampNeg)) all)) kx k.toNatClampNeg 0 0 0).1), .long all]) (rest := []) ⟨hx, hb, hml, hown, hg⟩ (k_X_quotientDown l ((th_L we t all ((f_X_restOf (t * (we kx.toNatClampNeg)) all)) kx k.toNatClampNeg 0 0 0).1) all) (q_S 2 hg wg_95 wg_93 wg_94 wg_13 rfl rfl (by decide +kernel) ⟨Nat.le_of_ble_eq_true rfl, Nat.le_of_ble_eq_true rfl⟩) ⟨nw_blind, fun _ _ _ => ⟨rfl, trivial⟩⟩ rfl rfl hl.1 rfl (lv_room (Nat.le_of_ble_eq_true rfl)) d_X_thousandthsOf_98 ⟨Nat.le_of_ble_eq_true rfl, Nat.le_of_ble_eq_true rfl⟩) ?_
  refine W.eq (g2 := F0 m 101 ls (.long (f_X_quotientDown ((th_L we t all ((f_X_restOf (t * (we kx.toNatClampNeg)) all)) kx k.toNatClampNeg 0 0 0).1) all) :: [])) rfl ?_
  refine lv_topl (fun v_3 ev_3 => ?_)
  refine lv_lstore (lv' := [(14, .long v_3), (4, .long all), (6, .long (t * (we kx.toNatClampNeg))), (10, .long ((th_L we t all ((f_X_restOf (t * (we kx.toNatClampNeg)) all)) kx k.toNatClampNeg 0 0 0).1)), (12, .long ((th_L we t all ((f_X_restOf (t * (we kx.toNatClampNeg)) all)) kx k.toNatClampNeg 0 0 0).2))]) hx hb d_X_thousandthsOf_101 hl (by decide) rfl (fun ls hl => ?_)
  refine lv_lload hx hb d_X_thousandthsOf_103 (lv_at hl 2 rfl) ?_
  refine lv_lload hx hb d_X_thousandthsOf_105 (lv_at hl 1 rfl) ?_
  refine W.callV (W.runS (As := [.long (t * (we kx.toNatClampNeg)), .long all]) (rest := []) ⟨hx, hb, hml, hown, hg⟩ (k_X_quotientDown l (t * (we kx.toNatClampNeg)) all) (q_S 2 hg wg_95 wg_93 wg_94 wg_13 rfl rfl (by decide +kernel) ⟨Nat.le_of_ble_eq_true rfl, Nat.le_of_ble_eq_true rfl⟩) ⟨nw_blind, fun _ _ _ => ⟨rfl, trivial⟩⟩ rfl rfl hl.1 rfl (lv_room (Nat.le_of_ble_eq_true rfl)) d_X_thousandthsOf_107 ⟨Nat.le_of_ble_eq_true rfl, Nat.le_of_ble_eq_true rfl⟩) ?_
  refine W.eq (g2 := F0 m 110 ls (.long (f_X_quotientDown (t * (we kx.toNatClampNeg)) all) :: [])) rfl ?_
  refine lv_topl (fun v_4 ev_4 => ?_)
  refine lv_lstore (lv' := [(16, .long v_4), (14, .long v_3), (4, .long all), (6, .long (t * (we kx.toNatClampNeg))), (10, .long ((th_L we t all ((f_X_restOf (t * (we kx.toNatClampNeg)) all)) kx k.toNatClampNeg 0 0 0).1)), (12, .long ((th_L we t all ((f_X_restOf (t * (we kx.toNatClampNeg)) all)) kx k.toNatClampNeg 0 0 0).2))]) hx hb d_X_thousandthsOf_110 hl (by decide) rfl (fun ls hl => ?_)
  refine lv_lload hx hb d_X_thousandthsOf_112 (lv_at hl 5 rfl) ?_
  refine lv_lload hx hb d_X_thousandthsOf_114 (lv_at hl 1 rfl) ?_
  refine W.lcmp hx hb d_X_thousandthsOf_116 ?_
  refine lv_if_ge (tgt := 127) hx hb d_X_thousandthsOf_117 (by decide) (fun c_5 => ?_) (fun c_5 => ?_)
  · skip
    rw [lg_cmp_ge] at c_5
    refine lv_lload hx hb d_X_thousandthsOf_127 (lv_at hl 0 rfl) ?_
    subst ev_4
    subst ev_3
    have hz : f_X_thousandthsOf we k kx t all = (f_X_quotientDown (t * (we kx.toNatClampNeg)) all) := by unfold f_X_thousandthsOf; rw [if_pos c_5]
    exact W.lret hx hb hr (fun t ht _ => ⟨by rw [hz], ht⟩) (fun _ h => by cases h) d_X_thousandthsOf_129
  · skip
    rw [lg_cmp_ge] at c_5
    refine lv_lload hx hb d_X_thousandthsOf_120 (lv_at hl 0 rfl) ?_
    refine lv_lconst (v := 1) hx hb d_X_thousandthsOf_122 (by decide) ?_
    refine lv_ladd hx hb d_X_thousandthsOf_123 ?_
    refine lv_goto (tgt := 129) hx hb d_X_thousandthsOf_124 (by decide) ?_
    subst ev_4
    subst ev_3
    have hz : f_X_thousandthsOf we k kx t all = (f_X_quotientDown (t * (we kx.toNatClampNeg)) all) + 1 := by unfold f_X_thousandthsOf; rw [if_neg c_5]
    exact W.lret hx hb hr (fun t ht _ => ⟨by rw [hz], ht⟩) (fun _ h => by cases h) d_X_thousandthsOf_129
def f_X_share (ab be : Nat → Int64) (un : Nat → Int32) (n : Int32) (we : Nat → Int64) (k a kx : Int32) : Int32 × (Nat → Int64) × (Nat → Int64) × (Nat → Int32) × Int32 := if (f_X_isAmount a n) = 0 then ((-3), (ab, be, un, n)) else if kx < 0 then ((-3), (ab, be, un, n)) else if kx < k then if (ab a.toNatClampNeg) < 0 then ((-1), (ab, be, un, n)) else if (f_X_sumOfWeights we k) = 0 then ((-1), (ab, be, un, n)) else if kx ≤ 0 then (f_X_keep ab be un n (((f_X_thousandthsOf we k kx (f_X_quotientDown ((ab a.toNatClampNeg) * 1000) (be a.toNatClampNeg)) (f_X_sumOfWeights we k)) * (be a.toNatClampNeg)) + (f_X_restOf ((ab a.toNatClampNeg) * 1000) (be a.toNatClampNeg))) (1000 * (be a.toNatClampNeg)) (un a.toNatClampNeg)) else (f_X_keep ab be un n (f_X_thousandthsOf we k kx (f_X_quotientDown ((ab a.toNatClampNeg) * 1000) (be a.toNatClampNeg)) (f_X_sumOfWeights we k)) 1000 (un a.toNatClampNeg)) else ((-3), (ab, be, un, n))
set_option maxHeartbeats 4000000 in
set_option maxRecDepth 100000 in
theorem k_X_share (l : Launch) (dC : Nat → ClassId) (dI : Nat → Nat → Nat) (cJ cI cT : ClassId) (h a1 a2 a3 a4 a5 : Nat) (n k : Int32) (ab be : Nat → Int64) (un : Nat → Int32) (we : Nat → Int64) (a kx : Int32) (sz : Nat) (hn0 : 0 ≤ n.toInt) (hn : n.toInt ≤ (500 : Nat)) (hk0 : 0 ≤ k.toInt) (hk : k.toInt ≤ (16 : Nat)) : Met l y_X_share w_X_share ({ frames := 3, cells := 0, slots := 0, locals := 85 }) (va_Pc [.ref h, .int a, .int kx] (wx dC dI cJ cI cT sz [(h, .inr (1, [.ref a1, .ref a2, .ref a3, .int n, .ref a4, .int k, .ref a5])), (a1, .inl (cJ, 500, .inr (.inl ab))), (a2, .inl (cJ, 500, .inr (.inl be))), (a3, .inl (cI, 500, .inl un)), (a4, .inl (cJ, 16, .inr (.inl we)))])) (va_Qi (fun (r9 : Int32) (u9 : (Nat → Int64) × (Nat → Int64) × (Nat → Int32) × Int32) => (r9, u9) = f_X_share ab be un n we k a kx) (fun u => wb dC dI cJ cI cT (va_A [(h, .inr (1, [.ref a1, .ref a2, .ref a3, .int n, .ref a4, .int k, .ref a5])), (a1, .inl (cJ, 500, .inr (.inl ab))), (a2, .inl (cJ, 500, .inr (.inl be))), (a3, .inl (cI, 500, .inl un)), (a4, .inl (cJ, 16, .inr (.inl we)))] sz) [(h, .inr (1, [.ref a1, .ref a2, .ref a3, .int u.2.2.2, .ref a4, .int k, .ref a5])), (a1, .inl (cJ, 500, .inr (.inl u.1))), (a2, .inl (cJ, 500, .inr (.inl u.2.1))), (a3, .inl (cI, 500, .inl u.2.2.1)), (a4, .inl (cJ, 16, .inr (.inl we)))]) (va_A [(h, .inr (1, [.ref a1, .ref a2, .ref a3, .int n, .ref a4, .int k, .ref a5])), (a1, .inl (cJ, 500, .inr (.inl ab))), (a2, .inl (cJ, 500, .inr (.inl be))), (a3, .inl (cI, 500, .inl un)), (a4, .inl (cJ, 16, .inr (.inl we)))] sz)) 0 0 (va_A [(h, .inr (1, [.ref a1, .ref a2, .ref a3, .int n, .ref a4, .int k, .ref a5])), (a1, .inl (cJ, 500, .inr (.inl ab))), (a2, .inl (cJ, 500, .inr (.inl be))), (a3, .inl (cI, 500, .inl un)), (a4, .inl (cJ, 16, .inr (.inl we)))] sz) := by
  refine Met.ofW (cc := c_X_share) (maxL := 11) (ret := (Option.some Jvm.ClassFile.FieldType.int)) (by decide) rfl ?_
  intro p e s m args below meth c s₁ B hml hv
  obtain ⟨rfl, hsz, hP, hK, hD0⟩ := hv
  have hx := B.exec
  have hb := B.bytes
  have hr := B.returns
  have hts := atoms_spec (ws := w_X_share) B.pre
  have hg : ∀ w ∈ WG, w.before _ s = true := fun w h => hts w (List.mem_cons_of_mem _ h)
  have hown : s.vm.findClass R_X = some m.cls := findClass_of_methodNamed B.named
  have hlocks := B.notSynchronized
  have hl := lv_entry ([.ref h, .int a, .int kx]) (n := 11) (Nat.le_of_ble_eq_true rfl)
  rw [lg_entry_eq]
  generalize (lg_sl ([.ref h, .int a, .int kx]) ++ List.replicate (11 - (lg_sl ([.ref h, .int a, .int kx])).length) Slot.unset).toArray = ls at hl ⊢
  have hl : lv_has ls 11 [(0, .ref h), (1, .int a), (2, .int kx)] := hl
  subst hsz
  have hD := hD0.self (sz := s.heap.size)
  generalize hAe : va_A [(h, .inr (1, [.ref a1, .ref a2, .ref a3, .int n, .ref a4, .int k, .ref a5])), (a1, .inl (cJ, 500, .inr (.inl ab))), (a2, .inl (cJ, 500, .inr (.inl be))), (a3, .inl (cI, 500, .inl un)), (a4, .inl (cJ, 16, .inr (.inl we)))] s.heap.size = A at hD ⊢
  have hA : ∀ q : Nat, s.heap.size ≤ q → A q := fun q h => by rw [← hAe]; exact Or.inr h
  have hS : va_S A s.heap s.heap [] := va_S.rf
  have hP : va_P (dC, dI) classes [(h, .inr (1, [.ref a1, .ref a2, .ref a3, .int n, .ref a4, .int k, .ref a5])), (a1, .inl (cJ, 500, .inr (.inl ab))), (a2, .inl (cJ, 500, .inr (.inl be))), (a3, .inl (cI, 500, .inl un)), (a4, .inl (cJ, 16, .inr (.inl we)))] s.heap := hP
  have hD : va_D A [(h, .inr (1, [.ref a1, .ref a2, .ref a3, .int n, .ref a4, .int k, .ref a5])), (a1, .inl (cJ, 500, .inr (.inl ab))), (a2, .inl (cJ, 500, .inr (.inl be))), (a3, .inl (cI, 500, .inl un)), (a4, .inl (cJ, 16, .inr (.inl we)))] := hD
  skip
  refine lv_aload_n hx hb d_X_share_0 rfl (lv_at hl 0 rfl) ?_
  refine lv_iload_n hx hb d_X_share_1 rfl (lv_at hl 1 rfl) ?_
  have hPc := hP.sub (ws' := [(h, .inr (1, [.ref a1, .ref a2, .ref a3, .int n, .ref a4, .int k, .ref a5]))]) [0] rfl
  refine W.callV (W.runV (As := [.int a]) (rest := []) ⟨hx, hb, hml, hown, hg⟩ (k_X_isAmount l dC dI cJ cI cT h a1 a2 a3 a4 a5 n k a) (q_V 1 hg wg_66 wg_64 wg_65 wg_0 wg_13 rfl rfl (by decide +kernel) ⟨Nat.le_of_ble_eq_true rfl, Nat.le_of_ble_eq_true rfl⟩) ⟨wd_blind, va_recv hK hPc (ci := 1) (q0 := 0) rfl rfl, wd_pre (as := .ref h :: [.int a]) hPc hK⟩ rfl rfl hl.1 rfl (lv_room (Nat.le_of_ble_eq_true rfl)) d_X_share_2 ⟨Nat.le_of_ble_eq_true rfl, Nat.le_of_ble_eq_true rfl⟩) ?_
  refine W.eq (g2 := F0 m 5 ls (.int (f_X_isAmount a n) :: [])) rfl ?_
  refine lv_if_eq (tgt := 20) hx hb d_X_share_5 (by decide) (fun c_1 => ?_) (fun c_1 => ?_)
  · skip
    refine lv_bipush (v := (-3)) hx hb d_X_share_20 (by decide) ?_
    have hP9 := hP.sub (ws' := [(h, .inr (1, [.ref a1, .ref a2, .ref a3, .int n, .ref a4, .int k, .ref a5])), (a1, .inl (cJ, 500, .inr (.inl ab))), (a2, .inl (cJ, 500, .inr (.inl be))), (a3, .inl (cI, 500, .inl un)), (a4, .inl (cJ, 16, .inr (.inl we)))]) [0, 1, 2, 3, 4] rfl
    have hD9 := hD.sub (ws' := [(h, .inr (1, [.ref a1, .ref a2, .ref a3, .int n, .ref a4, .int k, .ref a5])), (a1, .inl (cJ, 500, .inr (.inl ab))), (a2, .inl (cJ, 500, .inr (.inl be))), (a3, .inl (cI, 500, .inl un)), (a4, .inl (cJ, 16, .inr (.inl we)))]) [0, 1, 2, 3, 4] (by decide) rfl
    have hz : ((-3), (ab, be, un, n)) = f_X_share ab be un n we k a kx := by unfold f_X_share; rw [if_pos c_1]
    exact W.iret (v := (-3)) hx hb hr (fun t ht hW => ⟨⟨(-3), (ab, be, un, n), rfl, hz, wb_of ht hW hP9 hK hD9⟩, hS.F ht⟩) hS.2.2 d_X_share_22
  · skip
    refine lv_iload_n hx hb d_X_share_8 rfl (lv_at hl 2 rfl) ?_
    refine lv_if_lt (tgt := 20) hx hb d_X_share_9 (by decide) (fun c_2 => ?_) (fun c_2 => ?_)
    · skip
      refine lv_bipush (v := (-3)) hx hb d_X_share_20 (by decide) ?_
      have hP9 := hP.sub (ws' := [(h, .inr (1, [.ref a1, .ref a2, .ref a3, .int n, .ref a4, .int k, .ref a5])), (a1, .inl (cJ, 500, .inr (.inl ab))), (a2, .inl (cJ, 500, .inr (.inl be))), (a3, .inl (cI, 500, .inl un)), (a4, .inl (cJ, 16, .inr (.inl we)))]) [0, 1, 2, 3, 4] rfl
      have hD9 := hD.sub (ws' := [(h, .inr (1, [.ref a1, .ref a2, .ref a3, .int n, .ref a4, .int k, .ref a5])), (a1, .inl (cJ, 500, .inr (.inl ab))), (a2, .inl (cJ, 500, .inr (.inl be))), (a3, .inl (cI, 500, .inl un)), (a4, .inl (cJ, 16, .inr (.inl we)))]) [0, 1, 2, 3, 4] (by decide) rfl
      have hz : ((-3), (ab, be, un, n)) = f_X_share ab be un n we k a kx := by unfold f_X_share; rw [if_neg c_1, if_pos c_2]
      exact W.iret (v := (-3)) hx hb hr (fun t ht hW => ⟨⟨(-3), (ab, be, un, n), rfl, hz, wb_of ht hW hP9 hK hD9⟩, hS.F ht⟩) hS.2.2 d_X_share_22
    · skip
      refine lv_iload_n hx hb d_X_share_12 rfl (lv_at hl 2 rfl) ?_
      refine lv_aload_n hx hb d_X_share_13 rfl (lv_at hl 0 rfl) ?_
      refine va_get (D := (dC, dI)) (ci := 1) (v := .int k) (C := R_X) (T := F_X) (N := 7) hx hb hg in_X hown hK hP 0 rfl rfl 5 (by decide) (hg _ wg_51) (fun _ h9 => h9) rfl d_X_share_14 ?_
      refine lv_icmp_lt (tgt := 23) hx hb d_X_share_17 (by decide) (fun c_3 => ?_) (fun c_3 => ?_)
      · skip
        refine lv_aload_n hx hb d_X_share_23 rfl (lv_at hl 0 rfl) ?_
        have hPc := hP.sub (ws' := [(h, .inr (1, [.ref a1, .ref a2, .ref a3, .int n, .ref a4, .int k, .ref a5])), (a4, .inl (cJ, 16, .inr (.inl we)))]) [0, 4] rfl
        refine W.callV (W.runV (As := []) (rest := []) ⟨hx, hb, hml, hown, hg⟩ (k_X_sumOfWeights l dC dI cJ cI cT h a1 a2 a3 a4 a5 n k we hk0 hk) (q_V 0 hg wg_153 wg_151 wg_152 wg_7 wg_13 rfl rfl (by decide +kernel) ⟨Nat.le_of_ble_eq_true rfl, Nat.le_of_ble_eq_true rfl⟩) ⟨wd_blind, va_recv hK hPc (ci := 1) (q0 := 0) rfl rfl, wd_pre (as := .ref h :: []) hPc hK⟩ rfl rfl hl.1 rfl (lv_room (Nat.le_of_ble_eq_true rfl)) d_X_share_24 ⟨Nat.le_of_ble_eq_true rfl, Nat.le_of_ble_eq_true rfl⟩) ?_
        refine W.eq (g2 := F0 m 27 ls (.long (f_X_sumOfWeights we k) :: [])) rfl ?_
        refine lv_topl (fun v_4 ev_4 => ?_)
        refine lv_lstore_n (lv' := [(3, .long v_4), (0, .ref h), (1, .int a), (2, .int kx)]) hx hb d_X_share_27 rfl hl (by decide) rfl (fun ls hl => ?_)
        refine lv_aload_n hx hb d_X_share_28 rfl (lv_at hl 1 rfl) ?_
        refine va_get (D := (dC, dI)) (ci := 1) (v := .ref a1) (C := R_X) (T := F_X) (N := 7) hx hb hg in_X hown hK hP 0 rfl rfl 0 (by decide) (hg _ wg_46) (fun _ h9 => h9) rfl d_X_share_29 ?_
        refine lv_iload_n hx hb d_X_share_32 rfl (lv_at hl 2 rfl) ?_
        refine va_lald hx hb hK hP 1 0 rfl rfl (am_in c_1 hn) d_X_share_33 ?_
        refine lv_lconst (v := 0) hx hb d_X_share_34 (by decide) ?_
        refine W.lcmp hx hb d_X_share_35 ?_
        refine lv_if_lt (tgt := 45) hx hb d_X_share_36 (by decide) (fun c_5 => ?_) (fun c_5 => ?_)
        · skip
          rw [lg_cmp_lt] at c_5
          refine lv_iconst (v := (-1)) hx hb d_X_share_45 (by decide) ?_
          subst ev_4
          have hP9 := hP.sub (ws' := [(h, .inr (1, [.ref a1, .ref a2, .ref a3, .int n, .ref a4, .int k, .ref a5])), (a1, .inl (cJ, 500, .inr (.inl ab))), (a2, .inl (cJ, 500, .inr (.inl be))), (a3, .inl (cI, 500, .inl un)), (a4, .inl (cJ, 16, .inr (.inl we)))]) [0, 1, 2, 3, 4] rfl
          have hD9 := hD.sub (ws' := [(h, .inr (1, [.ref a1, .ref a2, .ref a3, .int n, .ref a4, .int k, .ref a5])), (a1, .inl (cJ, 500, .inr (.inl ab))), (a2, .inl (cJ, 500, .inr (.inl be))), (a3, .inl (cI, 500, .inl un)), (a4, .inl (cJ, 16, .inr (.inl we)))]) [0, 1, 2, 3, 4] (by decide) rfl
          have hz : ((-1), (ab, be, un, n)) = f_X_share ab be un n we k a kx := by unfold f_X_share; rw [if_neg c_1, if_neg c_2, if_pos c_3, if_pos c_5]
          exact W.iret (v := (-1)) hx hb hr (fun t ht hW => ⟨⟨(-1), (ab, be, un, n), rfl, hz, wb_of ht hW hP9 hK hD9⟩, hS.F ht⟩) hS.2.2 d_X_share_46
        · skip
          rw [lg_cmp_lt] at c_5
          refine lv_lload_n hx hb d_X_share_39 rfl (lv_at hl 0 rfl) ?_
          refine lv_lconst (v := 0) hx hb d_X_share_40 (by decide) ?_
          refine W.lcmp hx hb d_X_share_41 ?_
          refine lv_if_ne (tgt := 47) hx hb d_X_share_42 (by decide) (fun c_6 => ?_) (fun c_6 => ?_)
          · skip
            rw [lg_cmp_eq] at c_6
            refine lv_aload_n hx hb d_X_share_47 rfl (lv_at hl 1 rfl) ?_
            refine va_get (D := (dC, dI)) (ci := 1) (v := .ref a1) (C := R_X) (T := F_X) (N := 7) hx hb hg in_X hown hK hP 0 rfl rfl 0 (by decide) (hg _ wg_46) (fun _ h9 => h9) rfl d_X_share_48 ?_
            refine lv_iload_n hx hb d_X_share_51 rfl (lv_at hl 2 rfl) ?_
            refine va_lald hx hb hK hP 1 0 rfl rfl (am_in c_1 hn) d_X_share_52 ?_
            refine lv_ldc2 (v := 1000) hx hb hown (hg _ wg_154) d_X_share_53 ?_
            refine lv_lmul hx hb d_X_share_56 ?_
            refine lv_topl (fun v_7 ev_7 => ?_)
            refine lv_lstore (lv' := [(5, .long v_7), (3, .long v_4), (0, .ref h), (1, .int a), (2, .int kx)]) hx hb d_X_share_57 hl (by decide) rfl (fun ls hl => ?_)
            refine lv_aload_n hx hb d_X_share_59 rfl (lv_at hl 2 rfl) ?_
            refine va_get (D := (dC, dI)) (ci := 1) (v := .ref a2) (C := R_X) (T := F_X) (N := 7) hx hb hg in_X hown hK hP 0 rfl rfl 1 (by decide) (hg _ wg_47) (fun _ h9 => h9) rfl d_X_share_60 ?_
            refine lv_iload_n hx hb d_X_share_63 rfl (lv_at hl 3 rfl) ?_
            refine va_lald hx hb hK hP 2 0 rfl rfl (am_in c_1 hn) d_X_share_64 ?_
            refine lv_topl (fun v_8 ev_8 => ?_)
            refine lv_lstore (lv' := [(7, .long v_8), (5, .long v_7), (3, .long v_4), (0, .ref h), (1, .int a), (2, .int kx)]) hx hb d_X_share_65 hl (by decide) rfl (fun ls hl => ?_)
            refine lv_aload_n hx hb d_X_share_67 rfl (lv_at hl 3 rfl) ?_
            refine lv_iload_n hx hb d_X_share_68 rfl (lv_at hl 5 rfl) ?_
            refine lv_lload hx hb d_X_share_69 (lv_at hl 1 rfl) ?_
            refine lv_lload hx hb d_X_share_71 (lv_at hl 0 rfl) ?_
            refine W.callV (W.runS (As := [.long v_7, .long v_8]) (rest := [.int kx, .ref h]) ⟨hx, hb, hml, hown, hg⟩ (k_X_quotientDown l v_7 v_8) (q_S 2 hg wg_95 wg_93 wg_94 wg_13 rfl rfl (by decide +kernel) ⟨Nat.le_of_ble_eq_true rfl, Nat.le_of_ble_eq_true rfl⟩) ⟨nw_blind, fun _ _ _ => ⟨rfl, trivial⟩⟩ rfl rfl hl.1 rfl (lv_room (Nat.le_of_ble_eq_true rfl)) d_X_share_73 ⟨Nat.le_of_ble_eq_true rfl, Nat.le_of_ble_eq_true rfl⟩) ?_
            refine W.eq (g2 := F0 m 76 ls (.long (f_X_quotientDown v_7 v_8) :: [.int kx, .ref h])) rfl ?_
            refine lv_lload_n hx hb d_X_share_76 rfl (lv_at hl 2 rfl) ?_
            have hPc := hP.sub (ws' := [(h, .inr (1, [.ref a1, .ref a2, .ref a3, .int n, .ref a4, .int k, .ref a5])), (a4, .inl (cJ, 16, .inr (.inl we)))]) [0, 4] rfl
            refine W.callV (W.runV (As := [.int kx, .long (f_X_quotientDown v_7 v_8), .long v_4]) (rest := []) ⟨hx, hb, hml, hown, hg⟩ (k_X_thousandthsOf l dC dI cJ cI cT h a1 a2 a3 a4 a5 n k we kx (f_X_quotientDown v_7 v_8) v_4 hk0 hk (in_lt c_2 c_3 hk)) (q_V 3 hg wg_157 wg_155 wg_156 wg_8 wg_13 rfl rfl (by decide +kernel) ⟨Nat.le_of_ble_eq_true rfl, Nat.le_of_ble_eq_true rfl⟩) ⟨wd_blind, va_recv hK hPc (ci := 1) (q0 := 0) rfl rfl, wd_pre (as := .ref h :: [.int kx, .long (f_X_quotientDown v_7 v_8), .long v_4]) hPc hK⟩ rfl rfl hl.1 rfl (lv_room (Nat.le_of_ble_eq_true rfl)) d_X_share_77 ⟨Nat.le_of_ble_eq_true rfl, Nat.le_of_ble_eq_true rfl⟩) ?_
            refine W.eq (g2 := F0 m 80 ls (.long (f_X_thousandthsOf we k kx (f_X_quotientDown v_7 v_8) v_4) :: [])) rfl ?_
            refine lv_topl (fun v_9 ev_9 => ?_)
            refine lv_lstore (lv' := [(9, .long v_9), (7, .long v_8), (5, .long v_7), (3, .long v_4), (0, .ref h), (1, .int a), (2, .int kx)]) hx hb d_X_share_80 hl (by decide) rfl (fun ls hl => ?_)
            refine lv_iload_n hx hb d_X_share_82 rfl (lv_at hl 6 rfl) ?_
            refine lv_if_le (tgt := 102) hx hb d_X_share_83 (by decide) (fun c_10 => ?_) (fun c_10 => ?_)
            · skip
              refine lv_aload_n hx hb d_X_share_102 rfl (lv_at hl 4 rfl) ?_
              refine lv_lload hx hb d_X_share_103 (lv_at hl 0 rfl) ?_
              refine lv_lload hx hb d_X_share_105 (lv_at hl 1 rfl) ?_
              refine lv_lmul hx hb d_X_share_107 ?_
              refine lv_lload hx hb d_X_share_108 (lv_at hl 2 rfl) ?_
              refine lv_lload hx hb d_X_share_110 (lv_at hl 1 rfl) ?_
              refine W.callV (W.runS (As := [.long v_7, .long v_8]) (rest := [.long (v_9 * v_8), .ref h]) ⟨hx, hb, hml, hown, hg⟩ (k_X_restOf l v_7 v_8) (q_S 2 hg wg_101 wg_99 wg_100 wg_13 rfl rfl (by decide +kernel) ⟨Nat.le_of_ble_eq_true rfl, Nat.le_of_ble_eq_true rfl⟩) ⟨nw_blind, fun _ _ _ => ⟨rfl, trivial⟩⟩ rfl rfl hl.1 rfl (lv_room (Nat.le_of_ble_eq_true rfl)) d_X_share_112 ⟨Nat.le_of_ble_eq_true rfl, Nat.le_of_ble_eq_true rfl⟩) ?_
              refine W.eq (g2 := F0 m 115 ls (.long (f_X_restOf v_7 v_8) :: [.long (v_9 * v_8), .ref h])) rfl ?_
              refine lv_ladd hx hb d_X_share_115 ?_
              refine lv_ldc2 (v := 1000) hx hb hown (hg _ wg_154) d_X_share_116 ?_
              refine lv_lload hx hb d_X_share_119 (lv_at hl 1 rfl) ?_
              refine lv_lmul hx hb d_X_share_121 ?_
              refine lv_aload_n hx hb d_X_share_122 rfl (lv_at hl 4 rfl) ?_
              refine va_get (D := (dC, dI)) (ci := 1) (v := .ref a3) (C := R_X) (T := F_X) (N := 7) hx hb hg in_X hown hK hP 0 rfl rfl 2 (by decide) (hg _ wg_48) (fun _ h9 => h9) rfl d_X_share_123 ?_
              refine lv_iload_n hx hb d_X_share_126 rfl (lv_at hl 5 rfl) ?_
              refine va_iald hx hb hK hP 3 1 rfl rfl (am_in c_1 hn) d_X_share_127 ?_
              have hPc := hP.sub (ws' := [(h, .inr (1, [.ref a1, .ref a2, .ref a3, .int n, .ref a4, .int k, .ref a5])), (a1, .inl (cJ, 500, .inr (.inl ab))), (a2, .inl (cJ, 500, .inr (.inl be))), (a3, .inl (cI, 500, .inl un))]) [0, 1, 2, 3] rfl
              have hDc := hD.sub (ws' := [(h, .inr (1, [.ref a1, .ref a2, .ref a3, .int n, .ref a4, .int k, .ref a5])), (a1, .inl (cJ, 500, .inr (.inl ab))), (a2, .inl (cJ, 500, .inr (.inl be))), (a3, .inl (cI, 500, .inl un))]) [0, 1, 2, 3] (by decide) rfl
              have hFc := va_free (wc := [(h, .inr (1, [.ref a1, .ref a2, .ref a3, .int n, .ref a4, .int k, .ref a5])), (a1, .inl (cJ, 500, .inr (.inl ab))), (a2, .inl (cJ, 500, .inr (.inl be))), (a3, .inl (cI, 500, .inl un))]) hD hS hA [0, 1, 2, 3] rfl
              refine va_calli (va_runV (As := [.long ((v_9 * v_8) + (f_X_restOf v_7 v_8)), .long (1000 * v_8), .int (un a.toNatClampNeg)]) (rest := []) ⟨hx, hb, hml, hown, hg⟩ (k_X_keep l dC dI cJ cI cT h a1 a2 a3 a4 a5 n k ab be un ((v_9 * v_8) + (f_X_restOf v_7 v_8)) (1000 * v_8) (un a.toNatClampNeg) _ hn0) (q_V 3 hg wg_69 wg_67 wg_68 wg_1 wg_13 rfl rfl (by decide +kernel) ⟨Nat.le_of_ble_eq_true rfl, Nat.le_of_ble_eq_true rfl⟩) ⟨wx_blind, va_recv hK hPc (ci := 1) (q0 := 0) rfl rfl, wx_pre (as := .ref h :: [.long ((v_9 * v_8) + (f_X_restOf v_7 v_8)), .long (1000 * v_8), .int (un a.toNatClampNeg)]) hPc hK hDc⟩ rfl rfl hl.1 rfl (lv_room (Nat.le_of_ble_eq_true rfl)) d_X_share_128 ⟨Nat.le_of_ble_eq_true rfl, Nat.le_of_ble_eq_true rfl⟩) hS (fun q _ h => hFc q h) hFc (fun r_15 u t H1 locs ht hvm hw_16 hB hz1 hk1 hS => ?_)
              obtain ⟨ab_11, be_12, un_13, n_14⟩ := u
              obtain ⟨hP1, hK1, hD1⟩ := hB
              rw [ht] at hP1
              obtain ⟨hP, hD⟩ := va_join (wr := [(a4, .inl (cJ, 16, .inr (.inl we)))]) (w1 := [(h, .inr (1, [.ref a1, .ref a2, .ref a3, .int n_14, .ref a4, .int k, .ref a5])), (a1, .inl (cJ, 500, .inr (.inl ab_11))), (a2, .inl (cJ, 500, .inr (.inl be_12))), (a3, .inl (cI, 500, .inl un_13))]) hP hD [0, 1, 2, 3] [4] rfl rfl (by decide) (by decide) hk1 hFc hP1 hD1
              generalize H1 = H at hP hS ⊢
              have hP : va_P (dC, dI) classes [(a4, .inl (cJ, 16, .inr (.inl we))), (h, .inr (1, [.ref a1, .ref a2, .ref a3, .int n_14, .ref a4, .int k, .ref a5])), (a1, .inl (cJ, 500, .inr (.inl ab_11))), (a2, .inl (cJ, 500, .inr (.inl be_12))), (a3, .inl (cI, 500, .inl un_13))] H := hP
              have hD : va_D A [(a4, .inl (cJ, 16, .inr (.inl we))), (h, .inr (1, [.ref a1, .ref a2, .ref a3, .int n_14, .ref a4, .int k, .ref a5])), (a1, .inl (cJ, 500, .inr (.inl ab_11))), (a2, .inl (cJ, 500, .inr (.inl be_12))), (a3, .inl (cI, 500, .inl un_13))] := hD
              subst ev_9
              subst ev_8
              subst ev_7
              subst ev_4
              have hP9 := hP.sub (ws' := [(h, .inr (1, [.ref a1, .ref a2, .ref a3, .int n_14, .ref a4, .int k, .ref a5])), (a1, .inl (cJ, 500, .inr (.inl ab_11))), (a2, .inl (cJ, 500, .inr (.inl be_12))), (a3, .inl (cI, 500, .inl un_13)), (a4, .inl (cJ, 16, .inr (.inl we)))]) [1, 2, 3, 4, 0] rfl
              have hD9 := hD.sub (ws' := [(h, .inr (1, [.ref a1, .ref a2, .ref a3, .int n_14, .ref a4, .int k, .ref a5])), (a1, .inl (cJ, 500, .inr (.inl ab_11))), (a2, .inl (cJ, 500, .inr (.inl be_12))), (a3, .inl (cI, 500, .inl un_13)), (a4, .inl (cJ, 16, .inr (.inl we)))]) [1, 2, 3, 4, 0] (by decide) rfl
              have hz : (r_15, (ab_11, be_12, un_13, n_14)) = f_X_share ab be un n we k a kx := by unfold f_X_share; rw [if_neg c_1, if_neg c_2, if_pos c_3, if_neg c_5, if_neg c_6, if_pos c_10]; exact hw_16
              exact W.iret (v := r_15) hx hb hr (fun t ht hW => ⟨⟨r_15, (ab_11, be_12, un_13, n_14), rfl, hz, wb_of ht hW hP9 hK hD9⟩, hS.F ht⟩) hS.2.2 d_X_share_131
            · skip
              refine lv_aload_n hx hb d_X_share_86 rfl (lv_at hl 4 rfl) ?_
              refine lv_lload hx hb d_X_share_87 (lv_at hl 0 rfl) ?_
              refine lv_ldc2 (v := 1000) hx hb hown (hg _ wg_154) d_X_share_89 ?_
              refine lv_aload_n hx hb d_X_share_92 rfl (lv_at hl 4 rfl) ?_
              refine va_get (D := (dC, dI)) (ci := 1) (v := .ref a3) (C := R_X) (T := F_X) (N := 7) hx hb hg in_X hown hK hP 0 rfl rfl 2 (by decide) (hg _ wg_48) (fun _ h9 => h9) rfl d_X_share_93 ?_
              refine lv_iload_n hx hb d_X_share_96 rfl (lv_at hl 5 rfl) ?_
              refine va_iald hx hb hK hP 3 1 rfl rfl (am_in c_1 hn) d_X_share_97 ?_
              have hPc := hP.sub (ws' := [(h, .inr (1, [.ref a1, .ref a2, .ref a3, .int n, .ref a4, .int k, .ref a5])), (a1, .inl (cJ, 500, .inr (.inl ab))), (a2, .inl (cJ, 500, .inr (.inl be))), (a3, .inl (cI, 500, .inl un))]) [0, 1, 2, 3] rfl
              have hDc := hD.sub (ws' := [(h, .inr (1, [.ref a1, .ref a2, .ref a3, .int n, .ref a4, .int k, .ref a5])), (a1, .inl (cJ, 500, .inr (.inl ab))), (a2, .inl (cJ, 500, .inr (.inl be))), (a3, .inl (cI, 500, .inl un))]) [0, 1, 2, 3] (by decide) rfl
              have hFc := va_free (wc := [(h, .inr (1, [.ref a1, .ref a2, .ref a3, .int n, .ref a4, .int k, .ref a5])), (a1, .inl (cJ, 500, .inr (.inl ab))), (a2, .inl (cJ, 500, .inr (.inl be))), (a3, .inl (cI, 500, .inl un))]) hD hS hA [0, 1, 2, 3] rfl
              refine va_calli (va_runV (As := [.long v_9, .long 1000, .int (un a.toNatClampNeg)]) (rest := []) ⟨hx, hb, hml, hown, hg⟩ (k_X_keep l dC dI cJ cI cT h a1 a2 a3 a4 a5 n k ab be un v_9 1000 (un a.toNatClampNeg) _ hn0) (q_V 3 hg wg_69 wg_67 wg_68 wg_1 wg_13 rfl rfl (by decide +kernel) ⟨Nat.le_of_ble_eq_true rfl, Nat.le_of_ble_eq_true rfl⟩) ⟨wx_blind, va_recv hK hPc (ci := 1) (q0 := 0) rfl rfl, wx_pre (as := .ref h :: [.long v_9, .long 1000, .int (un a.toNatClampNeg)]) hPc hK hDc⟩ rfl rfl hl.1 rfl (lv_room (Nat.le_of_ble_eq_true rfl)) d_X_share_98 ⟨Nat.le_of_ble_eq_true rfl, Nat.le_of_ble_eq_true rfl⟩) hS (fun q _ h => hFc q h) hFc (fun r_21 u t H1 locs ht hvm hw_22 hB hz1 hk1 hS => ?_)
              obtain ⟨ab_17, be_18, un_19, n_20⟩ := u
              obtain ⟨hP1, hK1, hD1⟩ := hB
              rw [ht] at hP1
              obtain ⟨hP, hD⟩ := va_join (wr := [(a4, .inl (cJ, 16, .inr (.inl we)))]) (w1 := [(h, .inr (1, [.ref a1, .ref a2, .ref a3, .int n_20, .ref a4, .int k, .ref a5])), (a1, .inl (cJ, 500, .inr (.inl ab_17))), (a2, .inl (cJ, 500, .inr (.inl be_18))), (a3, .inl (cI, 500, .inl un_19))]) hP hD [0, 1, 2, 3] [4] rfl rfl (by decide) (by decide) hk1 hFc hP1 hD1
              generalize H1 = H at hP hS ⊢
              have hP : va_P (dC, dI) classes [(a4, .inl (cJ, 16, .inr (.inl we))), (h, .inr (1, [.ref a1, .ref a2, .ref a3, .int n_20, .ref a4, .int k, .ref a5])), (a1, .inl (cJ, 500, .inr (.inl ab_17))), (a2, .inl (cJ, 500, .inr (.inl be_18))), (a3, .inl (cI, 500, .inl un_19))] H := hP
              have hD : va_D A [(a4, .inl (cJ, 16, .inr (.inl we))), (h, .inr (1, [.ref a1, .ref a2, .ref a3, .int n_20, .ref a4, .int k, .ref a5])), (a1, .inl (cJ, 500, .inr (.inl ab_17))), (a2, .inl (cJ, 500, .inr (.inl be_18))), (a3, .inl (cI, 500, .inl un_19))] := hD
              subst ev_9
              subst ev_8
              subst ev_7
              subst ev_4
              have hP9 := hP.sub (ws' := [(h, .inr (1, [.ref a1, .ref a2, .ref a3, .int n_20, .ref a4, .int k, .ref a5])), (a1, .inl (cJ, 500, .inr (.inl ab_17))), (a2, .inl (cJ, 500, .inr (.inl be_18))), (a3, .inl (cI, 500, .inl un_19)), (a4, .inl (cJ, 16, .inr (.inl we)))]) [1, 2, 3, 4, 0] rfl
              have hD9 := hD.sub (ws' := [(h, .inr (1, [.ref a1, .ref a2, .ref a3, .int n_20, .ref a4, .int k, .ref a5])), (a1, .inl (cJ, 500, .inr (.inl ab_17))), (a2, .inl (cJ, 500, .inr (.inl be_18))), (a3, .inl (cI, 500, .inl un_19)), (a4, .inl (cJ, 16, .inr (.inl we)))]) [1, 2, 3, 4, 0] (by decide) rfl
              have hz : (r_21, (ab_17, be_18, un_19, n_20)) = f_X_share ab be un n we k a kx := by unfold f_X_share; rw [if_neg c_1, if_neg c_2, if_pos c_3, if_neg c_5, if_neg c_6, if_neg c_10]; exact hw_22
              exact W.iret (v := r_21) hx hb hr (fun t ht hW => ⟨⟨r_21, (ab_17, be_18, un_19, n_20), rfl, hz, wb_of ht hW hP9 hK hD9⟩, hS.F ht⟩) hS.2.2 d_X_share_101
          · skip
            rw [lg_cmp_eq] at c_6
            refine lv_iconst (v := (-1)) hx hb d_X_share_45 (by decide) ?_
            subst ev_4
            have hP9 := hP.sub (ws' := [(h, .inr (1, [.ref a1, .ref a2, .ref a3, .int n, .ref a4, .int k, .ref a5])), (a1, .inl (cJ, 500, .inr (.inl ab))), (a2, .inl (cJ, 500, .inr (.inl be))), (a3, .inl (cI, 500, .inl un)), (a4, .inl (cJ, 16, .inr (.inl we)))]) [0, 1, 2, 3, 4] rfl
            have hD9 := hD.sub (ws' := [(h, .inr (1, [.ref a1, .ref a2, .ref a3, .int n, .ref a4, .int k, .ref a5])), (a1, .inl (cJ, 500, .inr (.inl ab))), (a2, .inl (cJ, 500, .inr (.inl be))), (a3, .inl (cI, 500, .inl un)), (a4, .inl (cJ, 16, .inr (.inl we)))]) [0, 1, 2, 3, 4] (by decide) rfl
            have hz : ((-1), (ab, be, un, n)) = f_X_share ab be un n we k a kx := by unfold f_X_share; rw [if_neg c_1, if_neg c_2, if_pos c_3, if_neg c_5, if_pos c_6]
            exact W.iret (v := (-1)) hx hb hr (fun t ht hW => ⟨⟨(-1), (ab, be, un, n), rfl, hz, wb_of ht hW hP9 hK hD9⟩, hS.F ht⟩) hS.2.2 d_X_share_46
      · skip
        refine lv_bipush (v := (-3)) hx hb d_X_share_20 (by decide) ?_
        have hP9 := hP.sub (ws' := [(h, .inr (1, [.ref a1, .ref a2, .ref a3, .int n, .ref a4, .int k, .ref a5])), (a1, .inl (cJ, 500, .inr (.inl ab))), (a2, .inl (cJ, 500, .inr (.inl be))), (a3, .inl (cI, 500, .inl un)), (a4, .inl (cJ, 16, .inr (.inl we)))]) [0, 1, 2, 3, 4] rfl
        have hD9 := hD.sub (ws' := [(h, .inr (1, [.ref a1, .ref a2, .ref a3, .int n, .ref a4, .int k, .ref a5])), (a1, .inl (cJ, 500, .inr (.inl ab))), (a2, .inl (cJ, 500, .inr (.inl be))), (a3, .inl (cI, 500, .inl un)), (a4, .inl (cJ, 16, .inr (.inl we)))]) [0, 1, 2, 3, 4] (by decide) rfl
        have hz : ((-3), (ab, be, un, n)) = f_X_share ab be un n we k a kx := by unfold f_X_share; rw [if_neg c_1, if_neg c_2, if_neg c_3]
        exact W.iret (v := (-3)) hx hb hr (fun t ht hW => ⟨⟨(-3), (ab, be, un, n), rfl, hz, wb_of ht hW hP9 hK hD9⟩, hS.F ht⟩) hS.2.2 d_X_share_22
