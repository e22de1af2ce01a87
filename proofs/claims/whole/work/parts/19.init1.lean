theorem arr_J {D : va_G} {cl : List vw_C} {cJ cI cT cA : ClassId} {s : State} (h : va_K D cl (TY cJ cI cT ++ [(cA, .long)]) s) : cA = cJ := by
  have h1 : s.vm.findClass ("[" ++ FieldType.long.toString) = some cA := (h.2 3 _ rfl).2
  have h2 : s.vm.findClass ("[" ++ FieldType.long.toString) = some cJ := (h.2 0 _ rfl).2
  exact Option.some.inj (h1.symm.trans h2)
theorem arr_I {D : va_G} {cl : List vw_C} {cJ cI cT cA : ClassId} {s : State} (h : va_K D cl (TY cJ cI cT ++ [(cA, .int)]) s) : cA = cI := by
  have h1 : s.vm.findClass ("[" ++ FieldType.int.toString) = some cA := (h.2 3 _ rfl).2
  have h2 : s.vm.findClass ("[" ++ FieldType.int.toString) = some cI := (h.2 1 _ rfl).2
  exact Option.some.inj (h1.symm.trans h2)
theorem arr_T {D : va_G} {cl : List vw_C} {cJ cI cT cA : ClassId} {s : State} (h : va_K D cl (TY cJ cI cT ++ [(cA, .object "LitreFractions$Table")]) s) : cA = cT := by
  obtain ⟨_, _, _, _, _, h1⟩ := (h.2 3 _ rfl).2
  obtain ⟨_, _, _, _, _, h2⟩ := (h.2 2 _ rfl).2
  exact Option.some.inj (h1.symm.trans h2)
abbrev tf0 (a b c d : Nat) : Nat → Option Nat := va_up (va_up (va_up (va_up (fun _ => none) 0 (some a)) 1 (some b)) 2 (some c)) 3 (some d)
theorem ao_blind {as : List Value} {C : String} : FrameBlind (va_Pc as (va_AO C)) := fun a U g mk q => ⟨q.1, va_AO.moved (u := U) (U := U.calling g mk a) (Vm.Alike.refl U.vm) q.2⟩
set_option maxHeartbeats 4000000 in
set_option maxRecDepth 100000 in
theorem k_T_init (l : Launch) (dC : Nat → ClassId) (dI : Nat → Nat → Nat) (cJ cI cT : ClassId) (th : Nat) (sz : Nat) : Met l y_T_init w_T_init ({ frames := 1, cells := 2, slots := 32, locals := 12 }) (va_Pc [.ref th] (wx dC dI cJ cI cT sz [(th, .inr (0, [.null, .null, .long 0, .int 0]))])) (va_Qv (fun (_ : Nat × Nat) => True) (fun u => wb dC dI cJ cI cT (va_A [(th, .inr (0, [.null, .null, .long 0, .int 0]))] sz) [(th, .inr (0, [.ref u.1, .ref u.2, .long 0, .int 0])), (u.1, .inl (cJ, 16, .inr (.inl (fun _ => 0)))), (u.2, .inl (cJ, 16, .inr (.inl (fun _ => 0))))]) (va_A [(th, .inr (0, [.null, .null, .long 0, .int 0]))] sz)) 2 32 (va_A [(th, .inr (0, [.null, .null, .long 0, .int 0]))] sz) := by
  refine Met.ofW (cc := c_T_init) (maxL := 1) (ret := (Option.none : Option Jvm.ClassFile.FieldType)) (by decide) rfl ?_
  intro p e s m args below meth c s₁ B hml hv
  obtain ⟨rfl, hsz, hP, hK, hD0⟩ := hv
  have hx := B.exec
  have hb := B.bytes
  have hr := B.returns
  have hts := atoms_spec (ws := w_T_init) B.pre
  have hg : ∀ w ∈ WG, w.before _ s = true := fun w h => hts w (List.mem_cons_of_mem _ h)
  have hown : s.vm.findClass R_T = some m.cls := findClass_of_methodNamed B.named
  have hlocks := B.notSynchronized
  have hl := lv_entry ([.ref th]) (n := 1) (Nat.le_of_ble_eq_true rfl)
  rw [lg_entry_eq]
  generalize (lg_sl ([.ref th]) ++ List.replicate (1 - (lg_sl ([.ref th])).length) Slot.unset).toArray = ls at hl ⊢
  have hl : lv_has ls 1 [(0, .ref th)] := hl
  have hin : meth.name = "<init>" := (name_of_methodNamed B.named B.method).1
  subst hsz
  have hD := hD0.self (sz := s.heap.size)
  generalize hAe : va_A [(th, .inr (0, [.null, .null, .long 0, .int 0]))] s.heap.size = A at hD ⊢
  have hA : ∀ q : Nat, s.heap.size ≤ q → A q := fun q h => by rw [← hAe]; exact Or.inr h
  have hS : va_S A s.heap s.heap [] := va_S.rf
  have hP : va_P (dC, dI) classes [(th, .inr (0, [.null, .null, .long 0, .int 0]))] s.heap := hP
  have hD : va_D A [(th, .inr (0, [.null, .null, .long 0, .int 0]))] := hD
  refine lv_aload_n hx hb d_T_init_0 rfl (lv_at hl 0 rfl) ?_
  refine W.objInit hx hb hown (hg _ wg_35) (hg _ wg_29) (hg _ wg_30) rfl (by rw [hml]; exact hl.1) rfl d_T_init_1 (Nat.le_of_ble_eq_true rfl) (Nat.le_of_ble_eq_true rfl) ?_
  refine W.eq (g2 := F0 m 4 ls []) rfl ?_
  refine lv_aload_n hx hb d_T_init_4 rfl (lv_at hl 0 rfl) ?_
  refine lv_bipush (v := 16) hx hb d_T_init_5 (by decide) ?_
  refine va_newa (atype := .long) (ty := .long) (D := (dC, dI)) (a0 := (16, .inr (.inl (fun _ => 0)))) (N' := 16) hx hb (hg _ wg_44) rfl hK hP hD hS hA (fun _ => rfl) (by decide) (by decide) (by decide) (Nat.le_of_ble_eq_true rfl) (Nat.le_of_ble_eq_true rfl) d_T_init_7 (fun q_1 cA H hK9 hP hD hS => ?_)
  obtain rfl : cJ = cA := (arr_J hK9).symm
  have hP : va_P (dC, dI) classes [(th, .inr (0, [.null, .null, .long 0, .int 0])), (q_1, .inl (cJ, 16, .inr (.inl (fun _ => 0))))] H := hP
  have hD : va_D A [(th, .inr (0, [.null, .null, .long 0, .int 0])), (q_1, .inl (cJ, 16, .inr (.inl (fun _ => 0))))] := hD
  refine va_putF (D := (dC, dI)) (ci := 0) (v := .ref q_1) (ty := .array .long) (C := R_T) (T := F_T) (N := 4) hx hb hg in_T tt_T tt_T_ok nn_T hown hK hP hD hS 0 rfl rfl 0 (by decide) (hg _ wg_36) (fun _ h9 => h9) rfl hin rfl (by decide +kernel) rfl rfl (Nat.le_of_ble_eq_true rfl) d_T_init_9 (fun H locs hP hD hS => ?_)
  have hP : va_P (dC, dI) classes [(th, .inr (0, [.ref q_1, .null, .long 0, .int 0])), (q_1, .inl (cJ, 16, .inr (.inl (fun _ => 0))))] H := hP
  have hD : va_D A [(th, .inr (0, [.ref q_1, .null, .long 0, .int 0])), (q_1, .inl (cJ, 16, .inr (.inl (fun _ => 0))))] := hD
  refine lv_aload_n hx hb d_T_init_12 rfl (lv_at hl 0 rfl) ?_
  refine lv_bipush (v := 16) hx hb d_T_init_13 (by decide) ?_
  refine va_newa (atype := .long) (ty := .long) (D := (dC, dI)) (a0 := (16, .inr (.inl (fun _ => 0)))) (N' := 16) hx hb (hg _ wg_44) rfl hK hP hD hS hA (fun _ => rfl) (by decide) (by decide) (by decide) (Nat.le_of_ble_eq_true rfl) (Nat.le_of_ble_eq_true rfl) d_T_init_15 (fun q_2 cA H hK9 hP hD hS => ?_)
  obtain rfl : cJ = cA := (arr_J hK9).symm
  have hP : va_P (dC, dI) classes [(th, .inr (0, [.ref q_1, .null, .long 0, .int 0])), (q_1, .inl (cJ, 16, .inr (.inl (fun _ => 0)))), (q_2, .inl (cJ, 16, .inr (.inl (fun _ => 0))))] H := hP
  have hD : va_D A [(th, .inr (0, [.ref q_1, .null, .long 0, .int 0])), (q_1, .inl (cJ, 16, .inr (.inl (fun _ => 0)))), (q_2, .inl (cJ, 16, .inr (.inl (fun _ => 0))))] := hD
  refine va_putF (D := (dC, dI)) (ci := 0) (v := .ref q_2) (ty := .array .long) (C := R_T) (T := F_T) (N := 4) hx hb hg in_T tt_T tt_T_ok nn_T hown hK hP hD hS 0 rfl rfl 1 (by decide) (hg _ wg_37) (fun _ h9 => h9) rfl hin rfl (by decide +kernel) rfl rfl (Nat.le_of_ble_eq_true rfl) d_T_init_17 (fun H locs hP hD hS => ?_)
  have hP : va_P (dC, dI) classes [(th, .inr (0, [.ref q_1, .ref q_2, .long 0, .int 0])), (q_1, .inl (cJ, 16, .inr (.inl (fun _ => 0)))), (q_2, .inl (cJ, 16, .inr (.inl (fun _ => 0))))] H := hP
  have hD : va_D A [(th, .inr (0, [.ref q_1, .ref q_2, .long 0, .int 0])), (q_1, .inl (cJ, 16, .inr (.inl (fun _ => 0)))), (q_2, .inl (cJ, 16, .inr (.inl (fun _ => 0))))] := hD
  have hP9 := hP.sub (ws' := [(th, .inr (0, [.ref q_1, .ref q_2, .long 0, .int 0])), (q_1, .inl (cJ, 16, .inr (.inl (fun _ => 0)))), (q_2, .inl (cJ, 16, .inr (.inl (fun _ => 0))))]) [0, 1, 2] rfl
  have hD9 := hD.sub (ws' := [(th, .inr (0, [.ref q_1, .ref q_2, .long 0, .int 0])), (q_1, .inl (cJ, 16, .inr (.inl (fun _ => 0)))), (q_2, .inl (cJ, 16, .inr (.inl (fun _ => 0))))]) [0, 1, 2] (by decide) rfl
  refine W.widen (k := 2) (n := 32) (Nat.le_of_ble_eq_true rfl) (Nat.le_of_ble_eq_true rfl) ?_
  exact W.vret hx hb hr (fun t ht hW => ⟨⟨(q_1, q_2), rfl, trivial, wb_of ht hW hP9 hK hD9⟩, hS.F ht⟩) hS.2.2 d_T_init_20
