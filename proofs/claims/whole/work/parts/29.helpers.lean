abbrev w_L_value : List Cond := .codeWith y_L_value c_L_value 8 (Option.some Jvm.ClassFile.FieldType.int) [(0, 13, 16, 13)] :: WG
set_option maxHeartbeats 4000000 in
set_option maxRecDepth 100000 in
theorem k_L_value (l : Launch) (hlt : l.stackTraces = false) (dC : Nat → ClassId) (dI : Nat → Nat → Nat) (cJ cI cT : ClassId) (h a1 a2 a3 a4 a5 : Nat) (n k : Int32) (ab be : Nat → Int64) (un : Nat → Int32) (x y : Int64) (z : Int32) (ao : Nat) (o : Nat → Int64) (sa : Nat) (sz : Nat) (hn0 : 0 ≤ n.toInt) : Met l y_L_value w_L_value ({ frames := 7, cells := 1, slots := 6, locals := 115 }) (va_Pc [.ref h, .long x, .long y, .int z, .ref ao] (fun U => wx dC dI cJ cI cT sz [(h, .inr (1, [.ref a1, .ref a2, .ref a3, .int n, .ref a4, .int k, .ref a5])), (a1, .inl (cJ, 500, .inr (.inl ab))), (a2, .inl (cJ, 500, .inr (.inl be))), (a3, .inl (cI, 500, .inl un)), (ao, .inl (cJ, 1, .inr (.inl o)))] U ∧ thr (va_A [(h, .inr (1, [.ref a1, .ref a2, .ref a3, .int n, .ref a4, .int k, .ref a5])), (a1, .inl (cJ, 500, .inr (.inl ab))), (a2, .inl (cJ, 500, .inr (.inl be))), (a3, .inl (cI, 500, .inl un)), (ao, .inl (cJ, 1, .inr (.inl o)))] sz) 32 "below is 0" sa U)) (va_Qi (fun (r9 : Int32) (u9 : (Nat → Int64) × (Nat → Int64) × (Nat → Int64) × (Nat → Int32) × Int32) => r9 = e_X_value ab be un n x y z ∧ (e_X_value ab be un n x y z = 0 → ∃ v : Int32, (v, u9.2) = f_X_value ab be un n x y z ∧ u9.1 = vp_updL o (0 : Int32).toNatClampNeg v.toInt64) ∧ (e_X_value ab be un n x y z = 1 → u9 = (o, ab, be, un, n))) (fun u => wb dC dI cJ cI cT (va_A [(h, .inr (1, [.ref a1, .ref a2, .ref a3, .int n, .ref a4, .int k, .ref a5])), (a1, .inl (cJ, 500, .inr (.inl ab))), (a2, .inl (cJ, 500, .inr (.inl be))), (a3, .inl (cI, 500, .inl un)), (ao, .inl (cJ, 1, .inr (.inl o)))] sz) [(h, .inr (1, [.ref a1, .ref a2, .ref a3, .int u.2.2.2.2, .ref a4, .int k, .ref a5])), (a1, .inl (cJ, 500, .inr (.inl u.2.1))), (a2, .inl (cJ, 500, .inr (.inl u.2.2.1))), (a3, .inl (cI, 500, .inl u.2.2.2.1)), (ao, .inl (cJ, 1, .inr (.inl u.1)))]) (va_A [(h, .inr (1, [.ref a1, .ref a2, .ref a3, .int n, .ref a4, .int k, .ref a5])), (a1, .inl (cJ, 500, .inr (.inl ab))), (a2, .inl (cJ, 500, .inr (.inl be))), (a3, .inl (cI, 500, .inl un)), (ao, .inl (cJ, 1, .inr (.inl o)))] sz)) 1 6 (va_A [(h, .inr (1, [.ref a1, .ref a2, .ref a3, .int n, .ref a4, .int k, .ref a5])), (a1, .inl (cJ, 500, .inr (.inl ab))), (a2, .inl (cJ, 500, .inr (.inl be))), (a3, .inl (cI, 500, .inl un)), (ao, .inl (cJ, 1, .inr (.inl o)))] sz) := by
  refine va_MetW (cc := c_L_value) (maxL := 8) (ret := (Option.some Jvm.ClassFile.FieldType.int)) (hh := [(0, 13, 16, 13)]) (by decide) rfl ?_
  intro p e s m args below meth c s₁ B hml hv
  obtain ⟨rfl, ⟨hsz, hP, hK, hD0⟩, hT⟩ := hv
  have hx := B.exec
  have hb := B.bytes
  have hr := B.returns
  have hts := atoms_spec (ws := w_L_value) B.pre
  have hg : ∀ w ∈ WG, w.before _ s = true := fun w h => hts w (List.mem_cons_of_mem _ h)
  have hown : s.vm.findClass R_L = some m.cls := findClass_of_methodNamed B.named
  have hlocks := B.notSynchronized
  have hl := lv_entry ([.ref h, .long x, .long y, .int z, .ref ao]) (n := 8) (Nat.le_of_ble_eq_true rfl)
  rw [lg_entry_eq]
  generalize (lg_sl ([.ref h, .long x, .long y, .int z, .ref ao]) ++ List.replicate (8 - (lg_sl ([.ref h, .long x, .long y, .int z, .ref ao])).length) Slot.unset).toArray = ls at hl ⊢
  have hl : lv_has ls 8 [(0, .ref h), (1, .long x), (3, .long y), (5, .int z), (6, .ref ao)] := hl
  have htab := vx_table (x := y_L_value) B (hts _ List.mem_cons_self)
  subst hsz
  have hD := hD0.self (sz := s.heap.size)
  generalize hAe : va_A [(h, .inr (1, [.ref a1, .ref a2, .ref a3, .int n, .ref a4, .int k, .ref a5])), (a1, .inl (cJ, 500, .inr (.inl ab))), (a2, .inl (cJ, 500, .inr (.inl be))), (a3, .inl (cI, 500, .inl un)), (ao, .inl (cJ, 1, .inr (.inl o)))] s.heap.size = A at hD hT ⊢
  have hA : ∀ q : Nat, s.heap.size ≤ q → A q := fun q h => by rw [← hAe]; exact Or.inr h
  have hS : va_S A s.heap s.heap [] := va_S.rf
  have hP : va_P (dC, dI) classes [(h, .inr (1, [.ref a1, .ref a2, .ref a3, .int n, .ref a4, .int k, .ref a5])), (a1, .inl (cJ, 500, .inr (.inl ab))), (a2, .inl (cJ, 500, .inr (.inl be))), (a3, .inl (cI, 500, .inl un)), (ao, .inl (cJ, 1, .inr (.inl o)))] s.heap := hP
  have hD : va_D A [(h, .inr (1, [.ref a1, .ref a2, .ref a3, .int n, .ref a4, .int k, .ref a5])), (a1, .inl (cJ, 500, .inr (.inl ab))), (a2, .inl (cJ, 500, .inr (.inl be))), (a3, .inl (cI, 500, .inl un)), (ao, .inl (cJ, 1, .inr (.inl o)))] := hD
  refine lv_aload hx hb d_L_value_0 (lv_at hl 4 rfl) ?_
  refine lv_iconst (v := 0) hx hb d_L_value_2 (by decide) ?_
  refine lv_aload_n hx hb d_L_value_3 rfl (lv_at hl 0 rfl) ?_
  refine lv_lload_n hx hb d_L_value_4 rfl (lv_at hl 1 rfl) ?_
  refine lv_lload_n hx hb d_L_value_5 rfl (lv_at hl 2 rfl) ?_
  refine lv_iload hx hb d_L_value_6 (lv_at hl 3 rfl) ?_
  have hPc := hP.sub (ws' := [(h, .inr (1, [.ref a1, .ref a2, .ref a3, .int n, .ref a4, .int k, .ref a5])), (a1, .inl (cJ, 500, .inr (.inl ab))), (a2, .inl (cJ, 500, .inr (.inl be))), (a3, .inl (cI, 500, .inl un))]) [0, 1, 2, 3] rfl
  have hDc := hD.sub (ws' := [(h, .inr (1, [.ref a1, .ref a2, .ref a3, .int n, .ref a4, .int k, .ref a5])), (a1, .inl (cJ, 500, .inr (.inl ab))), (a2, .inl (cJ, 500, .inr (.inl be))), (a3, .inl (cI, 500, .inl un))]) [0, 1, 2, 3] (by decide) rfl
  have hFc := va_free (wc := [(h, .inr (1, [.ref a1, .ref a2, .ref a3, .int n, .ref a4, .int k, .ref a5])), (a1, .inl (cJ, 500, .inr (.inl ab))), (a2, .inl (cJ, 500, .inr (.inl be))), (a3, .inl (cI, 500, .inl un))]) hD hS hA [0, 1, 2, 3] rfl
  refine vx_calli (vx_runV (As := [.long x, .long y, .int z]) (rest := [.int 0, .ref ao]) ⟨hx, hb, hml, hown, hg⟩ (k_X_value l hlt dC dI cJ cI cT h a1 a2 a3 a4 a5 n k ab be un x y z sa _ hn0) (q_V 3 hg wg_173 wg_170 wg_171 wg_172 wg_13 rfl rfl (by decide +kernel) ⟨(Nat.le_of_ble_eq_true rfl), (Nat.le_of_ble_eq_true rfl)⟩) ⟨and_blind wx_blind thr_blind, va_recv hK hPc (ci := 1) (q0 := 0) rfl rfl, and_pre (wx_pre (as := .ref h :: [.long x, .long y, .int z]) hPc hK hDc) (thr_pre hT hS hFc)⟩ rfl rfl hl.1 rfl (lv_room (Nat.le_of_ble_eq_true rfl)) d_L_value_8 ⟨(Nat.le_of_ble_eq_true rfl), (Nat.le_of_ble_eq_true rfl)⟩) hS (fun q _ h => hFc q h) hFc (fun q _ h => hFc q h) (fun E ce q9 u t H1 locs ht hvm hpx hBX hz1 hk1 hS hce hcv hcl => ?_) (fun r u t H1 locs ht hvm hw hB hz1 hk1 hS => ?_)
  · skip
    obtain ⟨rfl, hP1, hK1, hD1⟩ := hBX
    rw [ht] at hP1
    obtain ⟨hP, hD⟩ := va_join (wr := [(ao, .inl (cJ, 1, .inr (.inl o)))]) (w1 := [(h, .inr (1, [.ref a1, .ref a2, .ref a3, .int n, .ref a4, .int k, .ref a5])), (a1, .inl (cJ, 500, .inr (.inl ab))), (a2, .inl (cJ, 500, .inr (.inl be))), (a3, .inl (cI, 500, .inl un))]) hP hD [0, 1, 2, 3] [4] rfl rfl (by decide) (by decide) hk1 hFc hP1 hD1
    generalize H1 = H at hP hS hce ⊢
    have hP : va_P (dC, dI) classes [(ao, .inl (cJ, 1, .inr (.inl o))), (h, .inr (1, [.ref a1, .ref a2, .ref a3, .int n, .ref a4, .int k, .ref a5])), (a1, .inl (cJ, 500, .inr (.inl ab))), (a2, .inl (cJ, 500, .inr (.inl be))), (a3, .inl (cI, 500, .inl un))] H := hP
    have hD : va_D A [(ao, .inl (cJ, 1, .inr (.inl o))), (h, .inr (1, [.ref a1, .ref a2, .ref a3, .int n, .ref a4, .int k, .ref a5])), (a1, .inl (cJ, 500, .inr (.inl ab))), (a2, .inl (cJ, 500, .inr (.inl be))), (a3, .inl (cI, 500, .inl un))] := hD
    refine vx_catch (own := "LitreFractionsLaw") (name := "java/lang/ArithmeticException") hown [] ⟨0, 13, 16, 13⟩ [] htab (fun z hz => absurd hz List.not_mem_nil) (by decide) (by decide) (hg _ wg_169) (nw_use hT.1 nw_8) hce hcv hcl ?_
    refine lv_astore (lv' := [(7, .ref q9), (0, .ref h), (1, .long x), (3, .long y), (5, .int z), (6, .ref ao)]) hx hb d_L_value_16 hl (by decide) rfl (fun ls hl => ?_)
    refine lv_iconst (v := 1) hx hb d_L_value_18 (by decide) ?_
    have hP9 := hP.sub (ws' := [(h, .inr (1, [.ref a1, .ref a2, .ref a3, .int n, .ref a4, .int k, .ref a5])), (a1, .inl (cJ, 500, .inr (.inl ab))), (a2, .inl (cJ, 500, .inr (.inl be))), (a3, .inl (cI, 500, .inl un)), (ao, .inl (cJ, 1, .inr (.inl o)))]) [1, 2, 3, 4, 0] rfl
    have hD9 := hD.sub (ws' := [(h, .inr (1, [.ref a1, .ref a2, .ref a3, .int n, .ref a4, .int k, .ref a5])), (a1, .inl (cJ, 500, .inr (.inl ab))), (a2, .inl (cJ, 500, .inr (.inl be))), (a3, .inl (cI, 500, .inl un)), (ao, .inl (cJ, 1, .inr (.inl o)))]) [1, 2, 3, 4, 0] (by decide) rfl
    refine W.widen (k := 1) (n := 6) (Nat.le_of_ble_eq_true rfl) (Nat.le_of_ble_eq_true rfl) ?_
    exact W.iret (v := 1) hx hb hr (fun t ht hW => ⟨⟨1, (o, ab, be, un, n), rfl, ⟨hpx.symm, fun h9 => absurd (h9.symm.trans hpx) (by decide), fun _ => rfl⟩, wb_of ht hW hP9 hK hD9⟩, hS.F ht⟩) hS.2.2 d_L_value_19
  · skip
    obtain ⟨ab2, be2, un2, n2⟩ := u
    obtain ⟨hP1, hK1, hD1⟩ := hB
    rw [ht] at hP1
    obtain ⟨hP, hD⟩ := va_join (wr := [(ao, .inl (cJ, 1, .inr (.inl o)))]) (w1 := [(h, .inr (1, [.ref a1, .ref a2, .ref a3, .int n2, .ref a4, .int k, .ref a5])), (a1, .inl (cJ, 500, .inr (.inl ab2))), (a2, .inl (cJ, 500, .inr (.inl be2))), (a3, .inl (cI, 500, .inl un2))]) hP hD [0, 1, 2, 3] [4] rfl rfl (by decide) (by decide) hk1 hFc hP1 hD1
    generalize H1 = H at hP hS ⊢
    have hP : va_P (dC, dI) classes [(ao, .inl (cJ, 1, .inr (.inl o))), (h, .inr (1, [.ref a1, .ref a2, .ref a3, .int n2, .ref a4, .int k, .ref a5])), (a1, .inl (cJ, 500, .inr (.inl ab2))), (a2, .inl (cJ, 500, .inr (.inl be2))), (a3, .inl (cI, 500, .inl un2))] H := hP
    have hD : va_D A [(ao, .inl (cJ, 1, .inr (.inl o))), (h, .inr (1, [.ref a1, .ref a2, .ref a3, .int n2, .ref a4, .int k, .ref a5])), (a1, .inl (cJ, 500, .inr (.inl ab2))), (a2, .inl (cJ, 500, .inr (.inl be2))), (a3, .inl (cI, 500, .inl un2))] := hD
    refine lv_i2l hx hb d_L_value_11 rfl ?_
    refine lv_topl (fun v_1 ev_1 => ?_)
    refine va_last hx hb hK hP hD hS 0 0 rfl rfl (by unfold vp_in; decide) d_L_value_12 (fun H locs hP hD hS => ?_)
    have hP : va_P (dC, dI) classes [(ao, .inl (cJ, 1, .inr (.inl (vp_updL o (0 : Int32).toNatClampNeg v_1)))), (h, .inr (1, [.ref a1, .ref a2, .ref a3, .int n2, .ref a4, .int k, .ref a5])), (a1, .inl (cJ, 500, .inr (.inl ab2))), (a2, .inl (cJ, 500, .inr (.inl be2))), (a3, .inl (cI, 500, .inl un2))] H := hP
    have hD : va_D A [(ao, .inl (cJ, 1, .inr (.inl (vp_updL o (0 : Int32).toNatClampNeg v_1)))), (h, .inr (1, [.ref a1, .ref a2, .ref a3, .int n2, .ref a4, .int k, .ref a5])), (a1, .inl (cJ, 500, .inr (.inl ab2))), (a2, .inl (cJ, 500, .inr (.inl be2))), (a3, .inl (cI, 500, .inl un2))] := hD
    refine lv_goto (tgt := 20) hx hb d_L_value_13 (by decide) ?_
    refine lv_iconst (v := 0) hx hb d_L_value_20 (by decide) ?_
    subst ev_1
    have hP9 := hP.sub (ws' := [(h, .inr (1, [.ref a1, .ref a2, .ref a3, .int n2, .ref a4, .int k, .ref a5])), (a1, .inl (cJ, 500, .inr (.inl ab2))), (a2, .inl (cJ, 500, .inr (.inl be2))), (a3, .inl (cI, 500, .inl un2)), (ao, .inl (cJ, 1, .inr (.inl (vp_updL o (0 : Int32).toNatClampNeg r.toInt64))))]) [1, 2, 3, 4, 0] rfl
    have hD9 := hD.sub (ws' := [(h, .inr (1, [.ref a1, .ref a2, .ref a3, .int n2, .ref a4, .int k, .ref a5])), (a1, .inl (cJ, 500, .inr (.inl ab2))), (a2, .inl (cJ, 500, .inr (.inl be2))), (a3, .inl (cI, 500, .inl un2)), (ao, .inl (cJ, 1, .inr (.inl (vp_updL o (0 : Int32).toNatClampNeg r.toInt64))))]) [1, 2, 3, 4, 0] (by decide) rfl
    refine W.widen (k := 1) (n := 6) (Nat.le_of_ble_eq_true rfl) (Nat.le_of_ble_eq_true rfl) ?_
    exact W.iret (v := 0) hx hb hr (fun t ht hW => ⟨⟨0, (vp_updL o (0 : Int32).toNatClampNeg r.toInt64, ab2, be2, un2, n2), rfl, ⟨hw.2.symm, fun _ => ⟨_, hw.1, rfl⟩, fun h9 => absurd (h9.symm.trans hw.2) (by decide)⟩, wb_of ht hW hP9 hK hD9⟩, hS.F ht⟩) hS.2.2 d_L_value_21
abbrev w_L_over : List Cond := .codeWith y_L_over c_L_over 5 (Option.some Jvm.ClassFile.FieldType.int) [(0, 10, 13, 13)] :: WG
set_option maxHeartbeats 4000000 in
set_option maxRecDepth 100000 in
theorem k_L_over (l : Launch) (hlt : l.stackTraces = false) (dC : Nat → ClassId) (dI : Nat → Nat → Nat) (cJ cI cT : ClassId) (h a1 a2 a3 a4 a5 : Nat) (n k : Int32) (ab be : Nat → Int64) (un : Nat → Int32) (a b : Int32) (ao : Nat) (o : Nat → Int64) (sa : Nat) (sz : Nat) (hn0 : 0 ≤ n.toInt) (hn : n.toInt ≤ (500 : Nat)) : Met l y_L_over w_L_over ({ frames := 7, cells := 1, slots := 6, locals := 113 }) (va_Pc [.ref h, .int a, .int b, .ref ao] (fun U => wx dC dI cJ cI cT sz [(h, .inr (1, [.ref a1, .ref a2, .ref a3, .int n, .ref a4, .int k, .ref a5])), (a1, .inl (cJ, 500, .inr (.inl ab))), (a2, .inl (cJ, 500, .inr (.inl be))), (a3, .inl (cI, 500, .inl un)), (ao, .inl (cJ, 1, .inr (.inl o)))] U ∧ thr (va_A [(h, .inr (1, [.ref a1, .ref a2, .ref a3, .int n, .ref a4, .int k, .ref a5])), (a1, .inl (cJ, 500, .inr (.inl ab))), (a2, .inl (cJ, 500, .inr (.inl be))), (a3, .inl (cI, 500, .inl un)), (ao, .inl (cJ, 1, .inr (.inl o)))] sz) 56 "the divisor is 0" sa U)) (va_Qi (fun (r9 : Int32) (u9 : (Nat → Int64) × (Nat → Int64) × (Nat → Int64) × (Nat → Int32) × Int32) => r9 = e_X_over ab be un n a b ∧ (e_X_over ab be un n a b = 0 → ∃ v : Int32, (v, u9.2) = f_X_over ab be un n a b ∧ u9.1 = vp_updL o (0 : Int32).toNatClampNeg v.toInt64) ∧ (e_X_over ab be un n a b = 1 → u9 = (o, ab, be, un, n))) (fun u => wb dC dI cJ cI cT (va_A [(h, .inr (1, [.ref a1, .ref a2, .ref a3, .int n, .ref a4, .int k, .ref a5])), (a1, .inl (cJ, 500, .inr (.inl ab))), (a2, .inl (cJ, 500, .inr (.inl be))), (a3, .inl (cI, 500, .inl un)), (ao, .inl (cJ, 1, .inr (.inl o)))] sz) [(h, .inr (1, [.ref a1, .ref a2, .ref a3, .int u.2.2.2.2, .ref a4, .int k, .ref a5])), (a1, .inl (cJ, 500, .inr (.inl u.2.1))), (a2, .inl (cJ, 500, .inr (.inl u.2.2.1))), (a3, .inl (cI, 500, .inl u.2.2.2.1)), (ao, .inl (cJ, 1, .inr (.inl u.1)))]) (va_A [(h, .inr (1, [.ref a1, .ref a2, .ref a3, .int n, .ref a4, .int k, .ref a5])), (a1, .inl (cJ, 500, .inr (.inl ab))), (a2, .inl (cJ, 500, .inr (.inl be))), (a3, .inl (cI, 500, .inl un)), (ao, .inl (cJ, 1, .inr (.inl o)))] sz)) 1 6 (va_A [(h, .inr (1, [.ref a1, .ref a2, .ref a3, .int n, .ref a4, .int k, .ref a5])), (a1, .inl (cJ, 500, .inr (.inl ab))), (a2, .inl (cJ, 500, .inr (.inl be))), (a3, .inl (cI, 500, .inl un)), (ao, .inl (cJ, 1, .inr (.inl o)))] sz) := by
  refine va_MetW (cc := c_L_over) (maxL := 5) (ret := (Option.some Jvm.ClassFile.FieldType.int)) (hh := [(0, 10, 13, 13)]) (by decide) rfl ?_
  intro p e s m args below meth c s₁ B hml hv
  obtain ⟨rfl, ⟨hsz, hP, hK, hD0⟩, hT⟩ := hv
  have hx := B.exec
  have hb := B.bytes
  have hr := B.returns
  have hts := atoms_spec (ws := w_L_over) B.pre
  have hg : ∀ w ∈ WG, w.before _ s = true := fun w h => hts w (List.mem_cons_of_mem _ h)
  have hown : s.vm.findClass R_L = some m.cls := findClass_of_methodNamed B.named
  have hlocks := B.notSynchronized
  have hl := lv_entry ([.ref h, .int a, .int b, .ref ao]) (n := 5) (Nat.le_of_ble_eq_true rfl)
  rw [lg_entry_eq]
  generalize (lg_sl ([.ref h, .int a, .int b, .ref ao]) ++ List.replicate (5 - (lg_sl ([.ref h, .int a, .int b, .ref ao])).length) Slot.unset).toArray = ls at hl ⊢
  have hl : lv_has ls 5 [(0, .ref h), (1, .int a), (2, .int b), (3, .ref ao)] := hl
  have htab := vx_table (x := y_L_over) B (hts _ List.mem_cons_self)
  subst hsz
  have hD := hD0.self (sz := s.heap.size)
  generalize hAe : va_A [(h, .inr (1, [.ref a1, .ref a2, .ref a3, .int n, .ref a4, .int k, .ref a5])), (a1, .inl (cJ, 500, .inr (.inl ab))), (a2, .inl (cJ, 500, .inr (.inl be))), (a3, .inl (cI, 500, .inl un)), (ao, .inl (cJ, 1, .inr (.inl o)))] s.heap.size = A at hD hT ⊢
  have hA : ∀ q : Nat, s.heap.size ≤ q → A q := fun q h => by rw [← hAe]; exact Or.inr h
  have hS : va_S A s.heap s.heap [] := va_S.rf
  have hP : va_P (dC, dI) classes [(h, .inr (1, [.ref a1, .ref a2, .ref a3, .int n, .ref a4, .int k, .ref a5])), (a1, .inl (cJ, 500, .inr (.inl ab))), (a2, .inl (cJ, 500, .inr (.inl be))), (a3, .inl (cI, 500, .inl un)), (ao, .inl (cJ, 1, .inr (.inl o)))] s.heap := hP
  have hD : va_D A [(h, .inr (1, [.ref a1, .ref a2, .ref a3, .int n, .ref a4, .int k, .ref a5])), (a1, .inl (cJ, 500, .inr (.inl ab))), (a2, .inl (cJ, 500, .inr (.inl be))), (a3, .inl (cI, 500, .inl un)), (ao, .inl (cJ, 1, .inr (.inl o)))] := hD
  refine lv_aload_n hx hb d_L_over_0 rfl (lv_at hl 3 rfl) ?_
  refine lv_iconst (v := 0) hx hb d_L_over_1 (by decide) ?_
  refine lv_aload_n hx hb d_L_over_2 rfl (lv_at hl 0 rfl) ?_
  refine lv_iload_n hx hb d_L_over_3 rfl (lv_at hl 1 rfl) ?_
  refine lv_iload_n hx hb d_L_over_4 rfl (lv_at hl 2 rfl) ?_
  have hPc := hP.sub (ws' := [(h, .inr (1, [.ref a1, .ref a2, .ref a3, .int n, .ref a4, .int k, .ref a5])), (a1, .inl (cJ, 500, .inr (.inl ab))), (a2, .inl (cJ, 500, .inr (.inl be))), (a3, .inl (cI, 500, .inl un))]) [0, 1, 2, 3] rfl
  have hDc := hD.sub (ws' := [(h, .inr (1, [.ref a1, .ref a2, .ref a3, .int n, .ref a4, .int k, .ref a5])), (a1, .inl (cJ, 500, .inr (.inl ab))), (a2, .inl (cJ, 500, .inr (.inl be))), (a3, .inl (cI, 500, .inl un))]) [0, 1, 2, 3] (by decide) rfl
  have hFc := va_free (wc := [(h, .inr (1, [.ref a1, .ref a2, .ref a3, .int n, .ref a4, .int k, .ref a5])), (a1, .inl (cJ, 500, .inr (.inl ab))), (a2, .inl (cJ, 500, .inr (.inl be))), (a3, .inl (cI, 500, .inl un))]) hD hS hA [0, 1, 2, 3] rfl
  refine vx_calli (vx_runV (As := [.int a, .int b]) (rest := [.int 0, .ref ao]) ⟨hx, hb, hml, hown, hg⟩ (k_X_over l hlt dC dI cJ cI cT h a1 a2 a3 a4 a5 n k ab be un a b sa _ hn0 hn) (q_V 2 hg wg_229 wg_226 wg_227 wg_228 wg_13 rfl rfl (by decide +kernel) ⟨(Nat.le_of_ble_eq_true rfl), (Nat.le_of_ble_eq_true rfl)⟩) ⟨and_blind wx_blind thr_blind, va_recv hK hPc (ci := 1) (q0 := 0) rfl rfl, and_pre (wx_pre (as := .ref h :: [.int a, .int b]) hPc hK hDc) (thr_pre hT hS hFc)⟩ rfl rfl hl.1 rfl (lv_room (Nat.le_of_ble_eq_true rfl)) d_L_over_5 ⟨(Nat.le_of_ble_eq_true rfl), (Nat.le_of_ble_eq_true rfl)⟩) hS (fun q _ h => hFc q h) hFc (fun q _ h => hFc q h) (fun E ce q9 u t H1 locs ht hvm hpx hBX hz1 hk1 hS hce hcv hcl => ?_) (fun r u t H1 locs ht hvm hw hB hz1 hk1 hS => ?_)
  · skip
    obtain ⟨rfl, hP1, hK1, hD1⟩ := hBX
    rw [ht] at hP1
    obtain ⟨hP, hD⟩ := va_join (wr := [(ao, .inl (cJ, 1, .inr (.inl o)))]) (w1 := [(h, .inr (1, [.ref a1, .ref a2, .ref a3, .int n, .ref a4, .int k, .ref a5])), (a1, .inl (cJ, 500, .inr (.inl ab))), (a2, .inl (cJ, 500, .inr (.inl be))), (a3, .inl (cI, 500, .inl un))]) hP hD [0, 1, 2, 3] [4] rfl rfl (by decide) (by decide) hk1 hFc hP1 hD1
    generalize H1 = H at hP hS hce ⊢
    have hP : va_P (dC, dI) classes [(ao, .inl (cJ, 1, .inr (.inl o))), (h, .inr (1, [.ref a1, .ref a2, .ref a3, .int n, .ref a4, .int k, .ref a5])), (a1, .inl (cJ, 500, .inr (.inl ab))), (a2, .inl (cJ, 500, .inr (.inl be))), (a3, .inl (cI, 500, .inl un))] H := hP
    have hD : va_D A [(ao, .inl (cJ, 1, .inr (.inl o))), (h, .inr (1, [.ref a1, .ref a2, .ref a3, .int n, .ref a4, .int k, .ref a5])), (a1, .inl (cJ, 500, .inr (.inl ab))), (a2, .inl (cJ, 500, .inr (.inl be))), (a3, .inl (cI, 500, .inl un))] := hD
    refine vx_catch (own := "LitreFractionsLaw") (name := "java/lang/ArithmeticException") hown [] ⟨0, 10, 13, 13⟩ [] htab (fun z hz => absurd hz List.not_mem_nil) (by decide) (by decide) (hg _ wg_169) (nw_use hT.1 nw_8) hce hcv hcl ?_
    refine lv_astore (lv' := [(4, .ref q9), (0, .ref h), (1, .int a), (2, .int b), (3, .ref ao)]) hx hb d_L_over_13 hl (by decide) rfl (fun ls hl => ?_)
    refine lv_iconst (v := 1) hx hb d_L_over_15 (by decide) ?_
    have hP9 := hP.sub (ws' := [(h, .inr (1, [.ref a1, .ref a2, .ref a3, .int n, .ref a4, .int k, .ref a5])), (a1, .inl (cJ, 500, .inr (.inl ab))), (a2, .inl (cJ, 500, .inr (.inl be))), (a3, .inl (cI, 500, .inl un)), (ao, .inl (cJ, 1, .inr (.inl o)))]) [1, 2, 3, 4, 0] rfl
    have hD9 := hD.sub (ws' := [(h, .inr (1, [.ref a1, .ref a2, .ref a3, .int n, .ref a4, .int k, .ref a5])), (a1, .inl (cJ, 500, .inr (.inl ab))), (a2, .inl (cJ, 500, .inr (.inl be))), (a3, .inl (cI, 500, .inl un)), (ao, .inl (cJ, 1, .inr (.inl o)))]) [1, 2, 3, 4, 0] (by decide) rfl
    refine W.widen (k := 1) (n := 6) (Nat.le_of_ble_eq_true rfl) (Nat.le_of_ble_eq_true rfl) ?_
    exact W.iret (v := 1) hx hb hr (fun t ht hW => ⟨⟨1, (o, ab, be, un, n), rfl, ⟨hpx.symm, fun h9 => absurd (h9.symm.trans hpx) (by decide), fun _ => rfl⟩, wb_of ht hW hP9 hK hD9⟩, hS.F ht⟩) hS.2.2 d_L_over_16
  · skip
    obtain ⟨ab2, be2, un2, n2⟩ := u
    obtain ⟨hP1, hK1, hD1⟩ := hB
    rw [ht] at hP1
    obtain ⟨hP, hD⟩ := va_join (wr := [(ao, .inl (cJ, 1, .inr (.inl o)))]) (w1 := [(h, .inr (1, [.ref a1, .ref a2, .ref a3, .int n2, .ref a4, .int k, .ref a5])), (a1, .inl (cJ, 500, .inr (.inl ab2))), (a2, .inl (cJ, 500, .inr (.inl be2))), (a3, .inl (cI, 500, .inl un2))]) hP hD [0, 1, 2, 3] [4] rfl rfl (by decide) (by decide) hk1 hFc hP1 hD1
    generalize H1 = H at hP hS ⊢
    have hP : va_P (dC, dI) classes [(ao, .inl (cJ, 1, .inr (.inl o))), (h, .inr (1, [.ref a1, .ref a2, .ref a3, .int n2, .ref a4, .int k, .ref a5])), (a1, .inl (cJ, 500, .inr (.inl ab2))), (a2, .inl (cJ, 500, .inr (.inl be2))), (a3, .inl (cI, 500, .inl un2))] H := hP
    have hD : va_D A [(ao, .inl (cJ, 1, .inr (.inl o))), (h, .inr (1, [.ref a1, .ref a2, .ref a3, .int n2, .ref a4, .int k, .ref a5])), (a1, .inl (cJ, 500, .inr (.inl ab2))), (a2, .inl (cJ, 500, .inr (.inl be2))), (a3, .inl (cI, 500, .inl un2))] := hD
    refine lv_i2l hx hb d_L_over_8 rfl ?_
    refine lv_topl (fun v_1 ev_1 => ?_)
    refine va_last hx hb hK hP hD hS 0 0 rfl rfl (by unfold vp_in; decide) d_L_over_9 (fun H locs hP hD hS => ?_)
    have hP : va_P (dC, dI) classes [(ao, .inl (cJ, 1, .inr (.inl (vp_updL o (0 : Int32).toNatClampNeg v_1)))), (h, .inr (1, [.ref a1, .ref a2, .ref a3, .int n2, .ref a4, .int k, .ref a5])), (a1, .inl (cJ, 500, .inr (.inl ab2))), (a2, .inl (cJ, 500, .inr (.inl be2))), (a3, .inl (cI, 500, .inl un2))] H := hP
    have hD : va_D A [(ao, .inl (cJ, 1, .inr (.inl (vp_updL o (0 : Int32).toNatClampNeg v_1)))), (h, .inr (1, [.ref a1, .ref a2, .ref a3, .int n2, .ref a4, .int k, .ref a5])), (a1, .inl (cJ, 500, .inr (.inl ab2))), (a2, .inl (cJ, 500, .inr (.inl be2))), (a3, .inl (cI, 500, .inl un2))] := hD
    refine lv_goto (tgt := 17) hx hb d_L_over_10 (by decide) ?_
    refine lv_iconst (v := 0) hx hb d_L_over_17 (by decide) ?_
    subst ev_1
    have hP9 := hP.sub (ws' := [(h, .inr (1, [.ref a1, .ref a2, .ref a3, .int n2, .ref a4, .int k, .ref a5])), (a1, .inl (cJ, 500, .inr (.inl ab2))), (a2, .inl (cJ, 500, .inr (.inl be2))), (a3, .inl (cI, 500, .inl un2)), (ao, .inl (cJ, 1, .inr (.inl (vp_updL o (0 : Int32).toNatClampNeg r.toInt64))))]) [1, 2, 3, 4, 0] rfl
    have hD9 := hD.sub (ws' := [(h, .inr (1, [.ref a1, .ref a2, .ref a3, .int n2, .ref a4, .int k, .ref a5])), (a1, .inl (cJ, 500, .inr (.inl ab2))), (a2, .inl (cJ, 500, .inr (.inl be2))), (a3, .inl (cI, 500, .inl un2)), (ao, .inl (cJ, 1, .inr (.inl (vp_updL o (0 : Int32).toNatClampNeg r.toInt64))))]) [1, 2, 3, 4, 0] (by decide) rfl
    refine W.widen (k := 1) (n := 6) (Nat.le_of_ble_eq_true rfl) (Nat.le_of_ble_eq_true rfl) ?_
    exact W.iret (v := 0) hx hb hr (fun t ht hW => ⟨⟨0, (vp_updL o (0 : Int32).toNatClampNeg r.toInt64, ab2, be2, un2, n2), rfl, ⟨hw.2.symm, fun _ => ⟨_, hw.1, rfl⟩, fun h9 => absurd (h9.symm.trans hw.2) (by decide)⟩, wb_of ht hW hP9 hK hD9⟩, hS.F ht⟩) hS.2.2 d_L_over_18
abbrev w_L_digit : List Cond := .codeWith y_L_digit c_L_digit 6 (Option.some Jvm.ClassFile.FieldType.int) [(0, 12, 15, 23)] :: WG
set_option maxHeartbeats 4000000 in
set_option maxRecDepth 100000 in
theorem k_L_digit (l : Launch) (hlt : l.stackTraces = false) (dC : Nat → ClassId) (dI : Nat → Nat → Nat) (cJ cI cT : ClassId) (h a1 a2 a3 a4 a5 : Nat) (n k : Int32) (ab be : Nat → Int64) (a pa i : Int32) (ao : Nat) (o : Nat → Int64) (sa : Nat) (sz : Nat) (hn : n.toInt ≤ (500 : Nat)) : Met l y_L_digit w_L_digit ({ frames := 7, cells := 1, slots := 6, locals := 118 }) (va_Pc [.ref h, .int a, .int pa, .int i, .ref ao] (fun U => wx dC dI cJ cI cT sz [(h, .inr (1, [.ref a1, .ref a2, .ref a3, .int n, .ref a4, .int k, .ref a5])), (a1, .inl (cJ, 500, .inr (.inl ab))), (a2, .inl (cJ, 500, .inr (.inl be))), (ao, .inl (cJ, 1, .inr (.inl o)))] U ∧ thr (va_A [(h, .inr (1, [.ref a1, .ref a2, .ref a3, .int n, .ref a4, .int k, .ref a5])), (a1, .inl (cJ, 500, .inr (.inl ab))), (a2, .inl (cJ, 500, .inr (.inl be))), (ao, .inl (cJ, 1, .inr (.inl o)))] sz) 132 "there is no such digit" sa U)) (va_Qi (fun (r9 : Int32) (u9 : (Nat → Int64) × Unit) => r9 = e_X_digit ab be n a pa i ∧ (e_X_digit ab be n a pa i = 0 → ∃ v : Int32, v = f_X_digit ab be n a pa i ∧ u9.1 = vp_updL o (0 : Int32).toNatClampNeg v.toInt64) ∧ (e_X_digit ab be n a pa i = 1 → u9 = (o, ()))) (fun u => wb dC dI cJ cI cT (va_A [(h, .inr (1, [.ref a1, .ref a2, .ref a3, .int n, .ref a4, .int k, .ref a5])), (a1, .inl (cJ, 500, .inr (.inl ab))), (a2, .inl (cJ, 500, .inr (.inl be))), (ao, .inl (cJ, 1, .inr (.inl o)))] sz) [(h, .inr (1, [.ref a1, .ref a2, .ref a3, .int n, .ref a4, .int k, .ref a5])), (a1, .inl (cJ, 500, .inr (.inl ab))), (a2, .inl (cJ, 500, .inr (.inl be))), (ao, .inl (cJ, 1, .inr (.inl u.1)))]) (va_A [(h, .inr (1, [.ref a1, .ref a2, .ref a3, .int n, .ref a4, .int k, .ref a5])), (a1, .inl (cJ, 500, .inr (.inl ab))), (a2, .inl (cJ, 500, .inr (.inl be))), (ao, .inl (cJ, 1, .inr (.inl o)))] sz)) 1 6 (va_A [(h, .inr (1, [.ref a1, .ref a2, .ref a3, .int n, .ref a4, .int k, .ref a5])), (a1, .inl (cJ, 500, .inr (.inl ab))), (a2, .inl (cJ, 500, .inr (.inl be))), (ao, .inl (cJ, 1, .inr (.inl o)))] sz) := by
  refine va_MetW (cc := c_L_digit) (maxL := 6) (ret := (Option.some Jvm.ClassFile.FieldType.int)) (hh := [(0, 12, 15, 23)]) (by decide) rfl ?_
  intro p e s m args below meth c s₁ B hml hv
  obtain ⟨rfl, ⟨hsz, hP, hK, hD0⟩, hT⟩ := hv
  have hx := B.exec
  have hb := B.bytes
  have hr := B.returns
  have hts := atoms_spec (ws := w_L_digit) B.pre
  have hg : ∀ w ∈ WG, w.before _ s = true := fun w h => hts w (List.mem_cons_of_mem _ h)
  have hown : s.vm.findClass R_L = some m.cls := findClass_of_methodNamed B.named
  have hlocks := B.notSynchronized
  have hl := lv_entry ([.ref h, .int a, .int pa, .int i, .ref ao]) (n := 6) (Nat.le_of_ble_eq_true rfl)
  rw [lg_entry_eq]
  generalize (lg_sl ([.ref h, .int a, .int pa, .int i, .ref ao]) ++ List.replicate (6 - (lg_sl ([.ref h, .int a, .int pa, .int i, .ref ao])).length) Slot.unset).toArray = ls at hl ⊢
  have hl : lv_has ls 6 [(0, .ref h), (1, .int a), (2, .int pa), (3, .int i), (4, .ref ao)] := hl
  have htab := vx_table (x := y_L_digit) B (hts _ List.mem_cons_self)
  subst hsz
  have hD := hD0.self (sz := s.heap.size)
  generalize hAe : va_A [(h, .inr (1, [.ref a1, .ref a2, .ref a3, .int n, .ref a4, .int k, .ref a5])), (a1, .inl (cJ, 500, .inr (.inl ab))), (a2, .inl (cJ, 500, .inr (.inl be))), (ao, .inl (cJ, 1, .inr (.inl o)))] s.heap.size = A at hD hT ⊢
  have hA : ∀ q : Nat, s.heap.size ≤ q → A q := fun q h => by rw [← hAe]; exact Or.inr h
  have hS : va_S A s.heap s.heap [] := va_S.rf
  have hP : va_P (dC, dI) classes [(h, .inr (1, [.ref a1, .ref a2, .ref a3, .int n, .ref a4, .int k, .ref a5])), (a1, .inl (cJ, 500, .inr (.inl ab))), (a2, .inl (cJ, 500, .inr (.inl be))), (ao, .inl (cJ, 1, .inr (.inl o)))] s.heap := hP
  have hD : va_D A [(h, .inr (1, [.ref a1, .ref a2, .ref a3, .int n, .ref a4, .int k, .ref a5])), (a1, .inl (cJ, 500, .inr (.inl ab))), (a2, .inl (cJ, 500, .inr (.inl be))), (ao, .inl (cJ, 1, .inr (.inl o)))] := hD
  refine lv_aload hx hb d_L_digit_0 (lv_at hl 4 rfl) ?_
  refine lv_iconst (v := 0) hx hb d_L_digit_2 (by decide) ?_
  refine lv_aload_n hx hb d_L_digit_3 rfl (lv_at hl 0 rfl) ?_
  refine lv_iload_n hx hb d_L_digit_4 rfl (lv_at hl 1 rfl) ?_
  refine lv_iload_n hx hb d_L_digit_5 rfl (lv_at hl 2 rfl) ?_
  refine lv_iload_n hx hb d_L_digit_6 rfl (lv_at hl 3 rfl) ?_
  have hPc := hP.sub (ws' := [(h, .inr (1, [.ref a1, .ref a2, .ref a3, .int n, .ref a4, .int k, .ref a5])), (a1, .inl (cJ, 500, .inr (.inl ab))), (a2, .inl (cJ, 500, .inr (.inl be)))]) [0, 1, 2] rfl
  have hDc := hD.sub (ws' := [(h, .inr (1, [.ref a1, .ref a2, .ref a3, .int n, .ref a4, .int k, .ref a5])), (a1, .inl (cJ, 500, .inr (.inl ab))), (a2, .inl (cJ, 500, .inr (.inl be)))]) [0, 1, 2] (by decide) rfl
  have hFc := va_free (wc := [(h, .inr (1, [.ref a1, .ref a2, .ref a3, .int n, .ref a4, .int k, .ref a5])), (a1, .inl (cJ, 500, .inr (.inl ab))), (a2, .inl (cJ, 500, .inr (.inl be)))]) hD hS hA [0, 1, 2] rfl
  refine vx_calli (vx_runV (As := [.int a, .int pa, .int i]) (rest := [.int 0, .ref ao]) ⟨hx, hb, hml, hown, hg⟩ (k_X_digit l hlt dC dI cJ cI cT h a1 a2 a3 a4 a5 n k ab be a pa i sa _ hn) (q_V 3 hg wg_239 wg_236 wg_237 wg_238 wg_13 rfl rfl (by decide +kernel) ⟨(Nat.le_of_ble_eq_true rfl), (Nat.le_of_ble_eq_true rfl)⟩) ⟨and_blind wx_blind thr_blind, va_recv hK hPc (ci := 1) (q0 := 0) rfl rfl, and_pre (wx_pre (as := .ref h :: [.int a, .int pa, .int i]) hPc hK hDc) (thr_pre hT hS hFc)⟩ rfl rfl hl.1 rfl (lv_room (Nat.le_of_ble_eq_true rfl)) d_L_digit_7 ⟨(Nat.le_of_ble_eq_true rfl), (Nat.le_of_ble_eq_true rfl)⟩) hS (fun q _ h => hFc q h) hFc (fun q _ h => hFc q h) (fun E ce q9 u t H1 locs ht hvm hpx hBX hz1 hk1 hS hce hcv hcl => ?_) (fun r u t H1 locs ht hvm hw hB hz1 hk1 hS => ?_)
  · skip
    obtain ⟨rfl, hP1, hK1, hD1⟩ := hBX
    rw [ht] at hP1
    obtain ⟨hP, hD⟩ := va_join (wr := [(ao, .inl (cJ, 1, .inr (.inl o)))]) (w1 := [(h, .inr (1, [.ref a1, .ref a2, .ref a3, .int n, .ref a4, .int k, .ref a5])), (a1, .inl (cJ, 500, .inr (.inl ab))), (a2, .inl (cJ, 500, .inr (.inl be)))]) hP hD [0, 1, 2] [3] rfl rfl (by decide) (by decide) hk1 hFc hP1 hD1
    generalize H1 = H at hP hS hce ⊢
    have hP : va_P (dC, dI) classes [(ao, .inl (cJ, 1, .inr (.inl o))), (h, .inr (1, [.ref a1, .ref a2, .ref a3, .int n, .ref a4, .int k, .ref a5])), (a1, .inl (cJ, 500, .inr (.inl ab))), (a2, .inl (cJ, 500, .inr (.inl be)))] H := hP
    have hD : va_D A [(ao, .inl (cJ, 1, .inr (.inl o))), (h, .inr (1, [.ref a1, .ref a2, .ref a3, .int n, .ref a4, .int k, .ref a5])), (a1, .inl (cJ, 500, .inr (.inl ab))), (a2, .inl (cJ, 500, .inr (.inl be)))] := hD
    refine vx_catch (own := "LitreFractionsLaw") (name := "java/lang/IndexOutOfBoundsException") hown [] ⟨0, 12, 15, 23⟩ [] htab (fun z hz => absurd hz List.not_mem_nil) (by decide) (by decide) (hg _ wg_235) (nw_use hT.1 nw_12) hce hcv hcl ?_
    refine lv_astore (lv' := [(5, .ref q9), (0, .ref h), (1, .int a), (2, .int pa), (3, .int i), (4, .ref ao)]) hx hb d_L_digit_15 hl (by decide) rfl (fun ls hl => ?_)
    refine lv_iconst (v := 1) hx hb d_L_digit_17 (by decide) ?_
    have hP9 := hP.sub (ws' := [(h, .inr (1, [.ref a1, .ref a2, .ref a3, .int n, .ref a4, .int k, .ref a5])), (a1, .inl (cJ, 500, .inr (.inl ab))), (a2, .inl (cJ, 500, .inr (.inl be))), (ao, .inl (cJ, 1, .inr (.inl o)))]) [1, 2, 3, 0] rfl
    have hD9 := hD.sub (ws' := [(h, .inr (1, [.ref a1, .ref a2, .ref a3, .int n, .ref a4, .int k, .ref a5])), (a1, .inl (cJ, 500, .inr (.inl ab))), (a2, .inl (cJ, 500, .inr (.inl be))), (ao, .inl (cJ, 1, .inr (.inl o)))]) [1, 2, 3, 0] (by decide) rfl
    refine W.widen (k := 1) (n := 6) (Nat.le_of_ble_eq_true rfl) (Nat.le_of_ble_eq_true rfl) ?_
    exact W.iret (v := 1) hx hb hr (fun t ht hW => ⟨⟨1, (o, ()), rfl, ⟨hpx.symm, fun h9 => absurd (h9.symm.trans hpx) (by decide), fun _ => rfl⟩, wb_of ht hW hP9 hK hD9⟩, hS.F ht⟩) hS.2.2 d_L_digit_18
  · skip
    obtain ⟨hP1, hK1, hD1⟩ := hB
    rw [ht] at hP1
    obtain ⟨hP, hD⟩ := va_join (wr := [(ao, .inl (cJ, 1, .inr (.inl o)))]) (w1 := [(h, .inr (1, [.ref a1, .ref a2, .ref a3, .int n, .ref a4, .int k, .ref a5])), (a1, .inl (cJ, 500, .inr (.inl ab))), (a2, .inl (cJ, 500, .inr (.inl be)))]) hP hD [0, 1, 2] [3] rfl rfl (by decide) (by decide) hk1 hFc hP1 hD1
    generalize H1 = H at hP hS ⊢
    have hP : va_P (dC, dI) classes [(ao, .inl (cJ, 1, .inr (.inl o))), (h, .inr (1, [.ref a1, .ref a2, .ref a3, .int n, .ref a4, .int k, .ref a5])), (a1, .inl (cJ, 500, .inr (.inl ab))), (a2, .inl (cJ, 500, .inr (.inl be)))] H := hP
    have hD : va_D A [(ao, .inl (cJ, 1, .inr (.inl o))), (h, .inr (1, [.ref a1, .ref a2, .ref a3, .int n, .ref a4, .int k, .ref a5])), (a1, .inl (cJ, 500, .inr (.inl ab))), (a2, .inl (cJ, 500, .inr (.inl be)))] := hD
    refine lv_i2l hx hb d_L_digit_10 rfl ?_
    refine lv_topl (fun v_1 ev_1 => ?_)
    refine va_last hx hb hK hP hD hS 0 0 rfl rfl (by unfold vp_in; decide) d_L_digit_11 (fun H locs hP hD hS => ?_)
    have hP : va_P (dC, dI) classes [(ao, .inl (cJ, 1, .inr (.inl (vp_updL o (0 : Int32).toNatClampNeg v_1)))), (h, .inr (1, [.ref a1, .ref a2, .ref a3, .int n, .ref a4, .int k, .ref a5])), (a1, .inl (cJ, 500, .inr (.inl ab))), (a2, .inl (cJ, 500, .inr (.inl be)))] H := hP
    have hD : va_D A [(ao, .inl (cJ, 1, .inr (.inl (vp_updL o (0 : Int32).toNatClampNeg v_1)))), (h, .inr (1, [.ref a1, .ref a2, .ref a3, .int n, .ref a4, .int k, .ref a5])), (a1, .inl (cJ, 500, .inr (.inl ab))), (a2, .inl (cJ, 500, .inr (.inl be)))] := hD
    refine lv_goto (tgt := 19) hx hb d_L_digit_12 (by decide) ?_
    refine lv_iconst (v := 0) hx hb d_L_digit_19 (by decide) ?_
    subst ev_1
    have hP9 := hP.sub (ws' := [(h, .inr (1, [.ref a1, .ref a2, .ref a3, .int n, .ref a4, .int k, .ref a5])), (a1, .inl (cJ, 500, .inr (.inl ab))), (a2, .inl (cJ, 500, .inr (.inl be))), (ao, .inl (cJ, 1, .inr (.inl (vp_updL o (0 : Int32).toNatClampNeg r.toInt64))))]) [1, 2, 3, 0] rfl
    have hD9 := hD.sub (ws' := [(h, .inr (1, [.ref a1, .ref a2, .ref a3, .int n, .ref a4, .int k, .ref a5])), (a1, .inl (cJ, 500, .inr (.inl ab))), (a2, .inl (cJ, 500, .inr (.inl be))), (ao, .inl (cJ, 1, .inr (.inl (vp_updL o (0 : Int32).toNatClampNeg r.toInt64))))]) [1, 2, 3, 0] (by decide) rfl
    refine W.widen (k := 1) (n := 6) (Nat.le_of_ble_eq_true rfl) (Nat.le_of_ble_eq_true rfl) ?_
    exact W.iret (v := 0) hx hb hr (fun t ht hW => ⟨⟨0, (vp_updL o (0 : Int32).toNatClampNeg r.toInt64, ()), rfl, ⟨hw.2.symm, fun _ => ⟨_, hw.1, rfl⟩, fun h9 => absurd (h9.symm.trans hw.2) (by decide)⟩, wb_of ht hW hP9 hK hD9⟩, hS.F ht⟩) hS.2.2 d_L_digit_20
