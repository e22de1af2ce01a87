section LAWC
variable {p : Program} {l : Launch} {e : Env} {s : State} {m : MethodId} {below : List Frame} {meth : Method} {c : Code} {b L : Nat} {xs : Nat → Int32} {dC : Nat → ClassId} {dI : Nat → Nat → Nat} {cJ cI cT : ClassId} {h g ao : Nat} {H : Heap} {locs : List Loc} {cells slots : Nat} {ls : Array Slot} {I : Nat}
set_option maxHeartbeats 4000000 in
set_option maxRecDepth 100000 in
theorem lc_row_2 (C0 : lw_At p s m meth c b L xs) (E0 : LE0 l s dC dI cJ cI cT) (hI : I + 8 ≤ L) (hL : L ≤ 4096) (hi : LI s dC dI cJ cI cT h g ao H locs) (hc : cells + 1 ≤ room_1.cells) (hs : slots + 6 ≤ room_1.slots) (v1 : xs (nI I + 1).toNatClampNeg = nI 2) (hl : lv_has ls 7 [(0, .ref b), (1, .ref h), (2, .ref g), (3, .ref ao), (4, .int (nI I))]) (kk : LK p l e s m below meth c b dC dI cJ cI cT h g ao I cells slots) : W p l e room_1 s m #[Value.ref b] below meth c H locs cells slots (lw_Z below #[Value.ref b] s) (F0 m 512 ls []) := by
  obtain ⟨hx, hb, hr, hml, hown, hts, hX, hbl, hlocks, hgv⟩ := C0
  obtain ⟨hlt, hK, hN, sa1, sa2, sa3, hT1, hT2, hT3⟩ := E0
  obtain ⟨u, v, n, k, cd, ab, be, un, we, tx, ty, tb, tc, up, dn, mu, rw_, mx, my, bl, mw, o, hP, hD, hS, hIA, hIW, hIT⟩ := hi
  have hown : s.vm.findClass R_L = some m.cls := hown
  have hg : ∀ w ∈ WG, w.before #[Value.ref b] s = true := fun w h => hts w (WG_ok w h).1
  have hA : ∀ q : Nat, s.heap.size ≤ q → lA s q := fun _ h => h
  have hbA : ¬ lA s b := Nat.not_le.mpr hbl
  have hP : va_P (dC, dI) classes [(h, .inr (1, [.ref (u 0), .ref (u 1), .ref (u 2), .int n, .ref (u 3), .int k, .ref (u 4)])), ((u 0), .inl (cJ, 500, .inr (.inl ab))), ((u 1), .inl (cJ, 500, .inr (.inl be))), ((u 2), .inl (cI, 500, .inl un)), ((u 3), .inl (cJ, 16, .inr (.inl we))), ((u 4), .inl (cT, 4, .inr (.inr (.inr (.inr (tf0 (u 5) (u 6) (u 7) (u 8))))))), ((u 5), .inr (0, [.ref (u 9), .ref (u 13), .long (tb 0), .int (tc 0)])), ((u 9), .inl (cJ, 16, .inr (.inl (tx 0)))), ((u 13), .inl (cJ, 16, .inr (.inl (ty 0)))), ((u 6), .inr (0, [.ref (u 10), .ref (u 14), .long (tb 1), .int (tc 1)])), ((u 10), .inl (cJ, 16, .inr (.inl (tx 1)))), ((u 14), .inl (cJ, 16, .inr (.inl (ty 1)))), ((u 7), .inr (0, [.ref (u 11), .ref (u 15), .long (tb 2), .int (tc 2)])), ((u 11), .inl (cJ, 16, .inr (.inl (tx 2)))), ((u 15), .inl (cJ, 16, .inr (.inl (ty 2)))), ((u 8), .inr (0, [.ref (u 12), .ref (u 16), .long (tb 3), .int (tc 3)])), ((u 12), .inl (cJ, 16, .inr (.inl (tx 3)))), ((u 16), .inl (cJ, 16, .inr (.inl (ty 3)))), (g, .inr (2, [.int cd, .int n, .ref (v 0), .ref (v 1), .ref (v 2), .ref (v 3), .ref (v 4), .ref (v 5), .ref (v 6), .int k, .ref (v 7)])), ((v 0), .inl (cJ, 500, .inr (.inl up))), ((v 1), .inl (cJ, 500, .inr (.inl dn))), ((v 2), .inl (cI, 500, .inl mu)), ((v 3), .inl (cI, 4, .inl rw_)), ((v 4), .inl (cJ, 64, .inr (.inl mx))), ((v 5), .inl (cJ, 64, .inr (.inl my))), ((v 6), .inl (cJ, 4, .inr (.inl bl))), ((v 7), .inl (cJ, 16, .inr (.inl mw))), (ao, .inl (cJ, 1, .inr (.inl o)))] H := hP
  have hD : va_D (lA s) [(h, .inr (1, [.ref (u 0), .ref (u 1), .ref (u 2), .int n, .ref (u 3), .int k, .ref (u 4)])), ((u 0), .inl (cJ, 500, .inr (.inl ab))), ((u 1), .inl (cJ, 500, .inr (.inl be))), ((u 2), .inl (cI, 500, .inl un)), ((u 3), .inl (cJ, 16, .inr (.inl we))), ((u 4), .inl (cT, 4, .inr (.inr (.inr (.inr (tf0 (u 5) (u 6) (u 7) (u 8))))))), ((u 5), .inr (0, [.ref (u 9), .ref (u 13), .long (tb 0), .int (tc 0)])), ((u 9), .inl (cJ, 16, .inr (.inl (tx 0)))), ((u 13), .inl (cJ, 16, .inr (.inl (ty 0)))), ((u 6), .inr (0, [.ref (u 10), .ref (u 14), .long (tb 1), .int (tc 1)])), ((u 10), .inl (cJ, 16, .inr (.inl (tx 1)))), ((u 14), .inl (cJ, 16, .inr (.inl (ty 1)))), ((u 7), .inr (0, [.ref (u 11), .ref (u 15), .long (tb 2), .int (tc 2)])), ((u 11), .inl (cJ, 16, .inr (.inl (tx 2)))), ((u 15), .inl (cJ, 16, .inr (.inl (ty 2)))), ((u 8), .inr (0, [.ref (u 12), .ref (u 16), .long (tb 3), .int (tc 3)])), ((u 12), .inl (cJ, 16, .inr (.inl (tx 3)))), ((u 16), .inl (cJ, 16, .inr (.inl (ty 3)))), (g, .inr (2, [.int cd, .int n, .ref (v 0), .ref (v 1), .ref (v 2), .ref (v 3), .ref (v 4), .ref (v 5), .ref (v 6), .int k, .ref (v 7)])), ((v 0), .inl (cJ, 500, .inr (.inl up))), ((v 1), .inl (cJ, 500, .inr (.inl dn))), ((v 2), .inl (cI, 500, .inl mu)), ((v 3), .inl (cI, 4, .inl rw_)), ((v 4), .inl (cJ, 64, .inr (.inl mx))), ((v 5), .inl (cJ, 64, .inr (.inl my))), ((v 6), .inl (cJ, 4, .inr (.inl bl))), ((v 7), .inl (cJ, 16, .inr (.inl mw))), (ao, .inl (cJ, 1, .inr (.inl o)))] := hD
  have hn0 := hIA.1
  have hn := hIA.2.1
  have hk0 := hIW.1
  have hk := hIW.2.1
  have i1 : vp_in (nI I + 1) L := in_I (k := 1) hI hL (by decide)
  have i2 : vp_in (nI I + 2) L := in_I (k := 2) hI hL (by decide)
  obtain ⟨w2, v2⟩ : ∃ w : Int32, xs (nI I + 2).toNatClampNeg = w := ⟨_, rfl⟩
  have i3 : vp_in (nI I + 3) L := in_I (k := 3) hI hL (by decide)
  obtain ⟨w3, v3⟩ : ∃ w : Int32, xs (nI I + 3).toNatClampNeg = w := ⟨_, rfl⟩
  have i4 : vp_in (nI I + 4) L := in_I (k := 4) hI hL (by decide)
  obtain ⟨w4, v4⟩ : ∃ w : Int32, xs (nI I + 4).toNatClampNeg = w := ⟨_, rfl⟩
  have i5 : vp_in (nI I + 5) L := in_I (k := 5) hI hL (by decide)
  obtain ⟨w5, v5⟩ : ∃ w : Int32, xs (nI I + 5).toNatClampNeg = w := ⟨_, rfl⟩
  have i6 : vp_in (nI I + 6) L := in_I (k := 6) hI hL (by decide)
  obtain ⟨w6, v6⟩ : ∃ w : Int32, xs (nI I + 6).toNatClampNeg = w := ⟨_, rfl⟩
  have i7 : vp_in (nI I + 7) L := in_I (k := 7) hI hL (by decide)
  obtain ⟨w7, v7⟩ : ∃ w : Int32, xs (nI I + 7).toNatClampNeg = w := ⟨_, rfl⟩
  obtain ⟨x2, ex2⟩ : ∃ x : Int64, (w2.toInt64 <<< ((32 : Int32).toInt64 &&& 63)) ||| (w3.toInt64 &&& 4294967295) = x := ⟨_, rfl⟩
  obtain ⟨x4, ex4⟩ : ∃ x : Int64, (w4.toInt64 <<< ((32 : Int32).toInt64 &&& 63)) ||| (w5.toInt64 &&& 4294967295) = x := ⟨_, rfl⟩
  obtain ⟨x6, ex6⟩ : ∃ x : Int64, (w6.toInt64 <<< ((32 : Int32).toInt64 &&& 63)) ||| (w7.toInt64 &&& 4294967295) = x := ⟨_, rfl⟩
  refine lv_aload_n hx hb d_L_law_512 rfl (lv_at hl 1 rfl) ?_
  refine lv_aload_n hx hb d_L_law_513 rfl (lv_at hl 0 rfl) ?_
  refine lv_iload hx hb d_L_law_514 (lv_at hl 4 rfl) ?_
  refine lv_iconst (v := 1) hx hb d_L_law_516 (by decide) ?_
  refine lv_iadd hx hb d_L_law_517 ?_
  refine l_sld hx hb hX hbl hbA hS i1 v1 d_L_law_518 ?_
  refine lv_aload_n hx hb d_L_law_519 rfl (lv_at hl 0 rfl) ?_
  refine lv_iload hx hb d_L_law_520 (lv_at hl 4 rfl) ?_
  refine lv_iconst (v := 2) hx hb d_L_law_522 (by decide) ?_
  refine lv_iadd hx hb d_L_law_523 ?_
  refine l_sld hx hb hX hbl hbA hS i2 v2 d_L_law_524 ?_
  refine lv_i2l hx hb d_L_law_525 rfl ?_
  refine lv_bipush (v := 32) hx hb d_L_law_526 (by decide) ?_
  refine lv_lshl hx hb d_L_law_528 rfl ?_
  refine lv_aload_n hx hb d_L_law_529 rfl (lv_at hl 0 rfl) ?_
  refine lv_iload hx hb d_L_law_530 (lv_at hl 4 rfl) ?_
  refine lv_iconst (v := 3) hx hb d_L_law_532 (by decide) ?_
  refine lv_iadd hx hb d_L_law_533 ?_
  refine l_sld hx hb hX hbl hbA hS i3 v3 d_L_law_534 ?_
  refine lv_i2l hx hb d_L_law_535 rfl ?_
  refine lv_ldc2 (v := 4294967295) hx hb hown (hg _ wg_376) d_L_law_536 ?_
  refine lv_land hx hb d_L_law_539 ?_
  refine lv_lor hx hb d_L_law_540 ?_
  refine lv_topl (fun z_1 ez_1 => ?_)
  obtain rfl : x2 = z_1 := (ez_1.trans ex2).symm
  refine lv_aload_n hx hb d_L_law_541 rfl (lv_at hl 0 rfl) ?_
  refine lv_iload hx hb d_L_law_542 (lv_at hl 4 rfl) ?_
  refine lv_iconst (v := 4) hx hb d_L_law_544 (by decide) ?_
  refine lv_iadd hx hb d_L_law_545 ?_
  refine l_sld hx hb hX hbl hbA hS i4 v4 d_L_law_546 ?_
  refine lv_i2l hx hb d_L_law_547 rfl ?_
  refine lv_bipush (v := 32) hx hb d_L_law_548 (by decide) ?_
  refine lv_lshl hx hb d_L_law_550 rfl ?_
  refine lv_aload_n hx hb d_L_law_551 rfl (lv_at hl 0 rfl) ?_
  refine lv_iload hx hb d_L_law_552 (lv_at hl 4 rfl) ?_
  refine lv_iconst (v := 5) hx hb d_L_law_554 (by decide) ?_
  refine lv_iadd hx hb d_L_law_555 ?_
  refine l_sld hx hb hX hbl hbA hS i5 v5 d_L_law_556 ?_
  refine lv_i2l hx hb d_L_law_557 rfl ?_
  refine lv_ldc2 (v := 4294967295) hx hb hown (hg _ wg_376) d_L_law_558 ?_
  refine lv_land hx hb d_L_law_561 ?_
  refine lv_lor hx hb d_L_law_562 ?_
  refine lv_topl (fun z_2 ez_2 => ?_)
  obtain rfl : x4 = z_2 := (ez_2.trans ex4).symm
  refine lv_aload_n hx hb d_L_law_563 rfl (lv_at hl 0 rfl) ?_
  refine lv_iload hx hb d_L_law_564 (lv_at hl 4 rfl) ?_
  refine lv_bipush (v := 6) hx hb d_L_law_566 (by decide) ?_
  refine lv_iadd hx hb d_L_law_568 ?_
  refine l_sld hx hb hX hbl hbA hS i6 v6 d_L_law_569 ?_
  refine lv_i2l hx hb d_L_law_570 rfl ?_
  refine lv_bipush (v := 32) hx hb d_L_law_571 (by decide) ?_
  refine lv_lshl hx hb d_L_law_573 rfl ?_
  refine lv_aload_n hx hb d_L_law_574 rfl (lv_at hl 0 rfl) ?_
  refine lv_iload hx hb d_L_law_575 (lv_at hl 4 rfl) ?_
  refine lv_bipush (v := 7) hx hb d_L_law_577 (by decide) ?_
  refine lv_iadd hx hb d_L_law_579 ?_
  refine l_sld hx hb hX hbl hbA hS i7 v7 d_L_law_580 ?_
  refine lv_i2l hx hb d_L_law_581 rfl ?_
  refine lv_ldc2 (v := 4294967295) hx hb hown (hg _ wg_376) d_L_law_582 ?_
  refine lv_land hx hb d_L_law_585 ?_
  refine lv_lor hx hb d_L_law_586 ?_
  refine lv_topl (fun z_3 ez_3 => ?_)
  obtain rfl : x6 = z_3 := (ez_3.trans ex6).symm
  have hPc := hP.sub (ws' := [(h, .inr (1, [.ref (u 0), .ref (u 1), .ref (u 2), .int n, .ref (u 3), .int k, .ref (u 4)])), ((u 4), .inl (cT, 4, .inr (.inr (.inr (.inr (tf0 (u 5) (u 6) (u 7) (u 8))))))), ((u 7), .inr (0, [.ref (u 11), .ref (u 15), .long (tb 2), .int (tc 2)])), ((u 11), .inl (cJ, 16, .inr (.inl (tx 2)))), ((u 15), .inl (cJ, 16, .inr (.inl (ty 2))))]) [0, 5, 12, 13, 14] rfl
  have hDc := hD.sub (ws' := [(h, .inr (1, [.ref (u 0), .ref (u 1), .ref (u 2), .int n, .ref (u 3), .int k, .ref (u 4)])), ((u 4), .inl (cT, 4, .inr (.inr (.inr (.inr (tf0 (u 5) (u 6) (u 7) (u 8))))))), ((u 7), .inr (0, [.ref (u 11), .ref (u 15), .long (tb 2), .int (tc 2)])), ((u 11), .inl (cJ, 16, .inr (.inl (tx 2)))), ((u 15), .inl (cJ, 16, .inr (.inl (ty 2))))]) [0, 5, 12, 13, 14] (by decide) rfl
  have hFc := va_free (wc := [(h, .inr (1, [.ref (u 0), .ref (u 1), .ref (u 2), .int n, .ref (u 3), .int k, .ref (u 4)])), ((u 4), .inl (cT, 4, .inr (.inr (.inr (.inr (tf0 (u 5) (u 6) (u 7) (u 8))))))), ((u 7), .inr (0, [.ref (u 11), .ref (u 15), .long (tb 2), .int (tc 2)])), ((u 11), .inl (cJ, 16, .inr (.inl (tx 2)))), ((u 15), .inl (cJ, 16, .inr (.inl (ty 2))))]) hD hS hA [0, 5, 12, 13, 14] rfl
  refine va_calli (va_runV (As := [.int (nI 2), .long x2, .long x4, .long x6]) (rest := []) ⟨hx, hb, hml, hown, hg⟩ (k_X_row l dC dI cJ cI cT h (u 0) (u 1) (u 2) (u 3) (u 4) n k (tf0 (u 5) (u 6) (u 7) (u 8)) (u 7) (u 11) (u 15) (tb 2) (tc 2) (tx 2) (ty 2) (nI 2) x2 x4 x6 _ (tab_2 _ _ _ _) (hIT 2 (by decide)).1) (q_V 4 hg wg_119 wg_116 wg_117 wg_118 wg_13 rfl rfl (by decide +kernel) ⟨(Nat.le_of_ble_eq_true rfl), (Nat.le_of_ble_eq_true rfl)⟩) ⟨and_blind wx_blind nwd_blind, va_recv hK hPc (ci := 1) (q0 := 0) rfl rfl, and_pre (wx_pre (as := .ref h :: [.int (nI 2), .long x2, .long x4, .long x6]) hPc hK hDc) (nwd_pre hN)⟩ rfl rfl hl.1 rfl (lv_room (Nat.le_of_ble_eq_true rfl)) d_L_law_587 ⟨Nat.le_trans (by omega) hc, Nat.le_trans (by omega) hs⟩) hS (fun q _ h => hFc q h) hFc (fun r_5 uu t H1 locs ht hvm hw_4 hB hz1 hk1 hS => ?_)
  obtain ⟨tx2, ty2, tb2, tc2⟩ := uu
  obtain ⟨hP1, hK1, hD1⟩ := hB
  rw [ht] at hP1
  obtain ⟨hP, hD⟩ := va_join (wr := [((u 0), .inl (cJ, 500, .inr (.inl ab))), ((u 1), .inl (cJ, 500, .inr (.inl be))), ((u 2), .inl (cI, 500, .inl un)), ((u 3), .inl (cJ, 16, .inr (.inl we))), ((u 5), .inr (0, [.ref (u 9), .ref (u 13), .long (tb 0), .int (tc 0)])), ((u 9), .inl (cJ, 16, .inr (.inl (tx 0)))), ((u 13), .inl (cJ, 16, .inr (.inl (ty 0)))), ((u 6), .inr (0, [.ref (u 10), .ref (u 14), .long (tb 1), .int (tc 1)])), ((u 10), .inl (cJ, 16, .inr (.inl (tx 1)))), ((u 14), .inl (cJ, 16, .inr (.inl (ty 1)))), ((u 8), .inr (0, [.ref (u 12), .ref (u 16), .long (tb 3), .int (tc 3)])), ((u 12), .inl (cJ, 16, .inr (.inl (tx 3)))), ((u 16), .inl (cJ, 16, .inr (.inl (ty 3)))), (g, .inr (2, [.int cd, .int n, .ref (v 0), .ref (v 1), .ref (v 2), .ref (v 3), .ref (v 4), .ref (v 5), .ref (v 6), .int k, .ref (v 7)])), ((v 0), .inl (cJ, 500, .inr (.inl up))), ((v 1), .inl (cJ, 500, .inr (.inl dn))), ((v 2), .inl (cI, 500, .inl mu)), ((v 3), .inl (cI, 4, .inl rw_)), ((v 4), .inl (cJ, 64, .inr (.inl mx))), ((v 5), .inl (cJ, 64, .inr (.inl my))), ((v 6), .inl (cJ, 4, .inr (.inl bl))), ((v 7), .inl (cJ, 16, .inr (.inl mw))), (ao, .inl (cJ, 1, .inr (.inl o)))]) (w1 := [(h, .inr (1, [.ref (u 0), .ref (u 1), .ref (u 2), .int n, .ref (u 3), .int k, .ref (u 4)])), ((u 4), .inl (cT, 4, .inr (.inr (.inr (.inr (tf0 (u 5) (u 6) (u 7) (u 8))))))), ((u 7), .inr (0, [.ref (u 11), .ref (u 15), .long tb2, .int tc2])), ((u 11), .inl (cJ, 16, .inr (.inl tx2))), ((u 15), .inl (cJ, 16, .inr (.inl ty2)))]) hP hD [0, 5, 12, 13, 14] [1, 2, 3, 4, 6, 7, 8, 9, 10, 11, 15, 16, 17, 18, 19, 20, 21, 22, 23, 24, 25, 26, 27] rfl rfl (by decide) (by decide) hk1 hFc hP1 hD1
  generalize H1 = H at hP hS ⊢
  have hP : va_P (dC, dI) classes [((u 0), .inl (cJ, 500, .inr (.inl ab))), ((u 1), .inl (cJ, 500, .inr (.inl be))), ((u 2), .inl (cI, 500, .inl un)), ((u 3), .inl (cJ, 16, .inr (.inl we))), ((u 5), .inr (0, [.ref (u 9), .ref (u 13), .long (tb 0), .int (tc 0)])), ((u 9), .inl (cJ, 16, .inr (.inl (tx 0)))), ((u 13), .inl (cJ, 16, .inr (.inl (ty 0)))), ((u 6), .inr (0, [.ref (u 10), .ref (u 14), .long (tb 1), .int (tc 1)])), ((u 10), .inl (cJ, 16, .inr (.inl (tx 1)))), ((u 14), .inl (cJ, 16, .inr (.inl (ty 1)))), ((u 8), .inr (0, [.ref (u 12), .ref (u 16), .long (tb 3), .int (tc 3)])), ((u 12), .inl (cJ, 16, .inr (.inl (tx 3)))), ((u 16), .inl (cJ, 16, .inr (.inl (ty 3)))), (g, .inr (2, [.int cd, .int n, .ref (v 0), .ref (v 1), .ref (v 2), .ref (v 3), .ref (v 4), .ref (v 5), .ref (v 6), .int k, .ref (v 7)])), ((v 0), .inl (cJ, 500, .inr (.inl up))), ((v 1), .inl (cJ, 500, .inr (.inl dn))), ((v 2), .inl (cI, 500, .inl mu)), ((v 3), .inl (cI, 4, .inl rw_)), ((v 4), .inl (cJ, 64, .inr (.inl mx))), ((v 5), .inl (cJ, 64, .inr (.inl my))), ((v 6), .inl (cJ, 4, .inr (.inl bl))), ((v 7), .inl (cJ, 16, .inr (.inl mw))), (ao, .inl (cJ, 1, .inr (.inl o))), (h, .inr (1, [.ref (u 0), .ref (u 1), .ref (u 2), .int n, .ref (u 3), .int k, .ref (u 4)])), ((u 4), .inl (cT, 4, .inr (.inr (.inr (.inr (tf0 (u 5) (u 6) (u 7) (u 8))))))), ((u 7), .inr (0, [.ref (u 11), .ref (u 15), .long tb2, .int tc2])), ((u 11), .inl (cJ, 16, .inr (.inl tx2))), ((u 15), .inl (cJ, 16, .inr (.inl ty2)))] H := hP
  have hD : va_D (lA s) [((u 0), .inl (cJ, 500, .inr (.inl ab))), ((u 1), .inl (cJ, 500, .inr (.inl be))), ((u 2), .inl (cI, 500, .inl un)), ((u 3), .inl (cJ, 16, .inr (.inl we))), ((u 5), .inr (0, [.ref (u 9), .ref (u 13), .long (tb 0), .int (tc 0)])), ((u 9), .inl (cJ, 16, .inr (.inl (tx 0)))), ((u 13), .inl (cJ, 16, .inr (.inl (ty 0)))), ((u 6), .inr (0, [.ref (u 10), .ref (u 14), .long (tb 1), .int (tc 1)])), ((u 10), .inl (cJ, 16, .inr (.inl (tx 1)))), ((u 14), .inl (cJ, 16, .inr (.inl (ty 1)))), ((u 8), .inr (0, [.ref (u 12), .ref (u 16), .long (tb 3), .int (tc 3)])), ((u 12), .inl (cJ, 16, .inr (.inl (tx 3)))), ((u 16), .inl (cJ, 16, .inr (.inl (ty 3)))), (g, .inr (2, [.int cd, .int n, .ref (v 0), .ref (v 1), .ref (v 2), .ref (v 3), .ref (v 4), .ref (v 5), .ref (v 6), .int k, .ref (v 7)])), ((v 0), .inl (cJ, 500, .inr (.inl up))), ((v 1), .inl (cJ, 500, .inr (.inl dn))), ((v 2), .inl (cI, 500, .inl mu)), ((v 3), .inl (cI, 4, .inl rw_)), ((v 4), .inl (cJ, 64, .inr (.inl mx))), ((v 5), .inl (cJ, 64, .inr (.inl my))), ((v 6), .inl (cJ, 4, .inr (.inl bl))), ((v 7), .inl (cJ, 16, .inr (.inl mw))), (ao, .inl (cJ, 1, .inr (.inl o))), (h, .inr (1, [.ref (u 0), .ref (u 1), .ref (u 2), .int n, .ref (u 3), .int k, .ref (u 4)])), ((u 4), .inl (cT, 4, .inr (.inr (.inr (.inr (tf0 (u 5) (u 6) (u 7) (u 8))))))), ((u 7), .inr (0, [.ref (u 11), .ref (u 15), .long tb2, .int tc2])), ((u 11), .inl (cJ, 16, .inr (.inl tx2))), ((u 15), .inl (cJ, 16, .inr (.inl ty2)))] := hD
  refine lv_aload_n hx hb d_L_law_590 rfl (lv_at hl 2 rfl) ?_
  refine lv_aload_n hx hb d_L_law_591 rfl (lv_at hl 0 rfl) ?_
  refine lv_iload hx hb d_L_law_592 (lv_at hl 4 rfl) ?_
  refine lv_iconst (v := 1) hx hb d_L_law_594 (by decide) ?_
  refine lv_iadd hx hb d_L_law_595 ?_
  refine l_sld hx hb hX hbl hbA hS i1 v1 d_L_law_596 ?_
  refine lv_aload_n hx hb d_L_law_597 rfl (lv_at hl 0 rfl) ?_
  refine lv_iload hx hb d_L_law_598 (lv_at hl 4 rfl) ?_
  refine lv_iconst (v := 2) hx hb d_L_law_600 (by decide) ?_
  refine lv_iadd hx hb d_L_law_601 ?_
  refine l_sld hx hb hX hbl hbA hS i2 v2 d_L_law_602 ?_
  refine lv_i2l hx hb d_L_law_603 rfl ?_
  refine lv_bipush (v := 32) hx hb d_L_law_604 (by decide) ?_
  refine lv_lshl hx hb d_L_law_606 rfl ?_
  refine lv_aload_n hx hb d_L_law_607 rfl (lv_at hl 0 rfl) ?_
  refine lv_iload hx hb d_L_law_608 (lv_at hl 4 rfl) ?_
  refine lv_iconst (v := 3) hx hb d_L_law_610 (by decide) ?_
  refine lv_iadd hx hb d_L_law_611 ?_
  refine l_sld hx hb hX hbl hbA hS i3 v3 d_L_law_612 ?_
  refine lv_i2l hx hb d_L_law_613 rfl ?_
  refine lv_ldc2 (v := 4294967295) hx hb hown (hg _ wg_376) d_L_law_614 ?_
  refine lv_land hx hb d_L_law_617 ?_
  refine lv_lor hx hb d_L_law_618 ?_
  refine lv_topl (fun z_6 ez_6 => ?_)
  obtain rfl : x2 = z_6 := (ez_6.trans ex2).symm
  refine lv_aload_n hx hb d_L_law_619 rfl (lv_at hl 0 rfl) ?_
  refine lv_iload hx hb d_L_law_620 (lv_at hl 4 rfl) ?_
  refine lv_iconst (v := 4) hx hb d_L_law_622 (by decide) ?_
  refine lv_iadd hx hb d_L_law_623 ?_
  refine l_sld hx hb hX hbl hbA hS i4 v4 d_L_law_624 ?_
  refine lv_i2l hx hb d_L_law_625 rfl ?_
  refine lv_bipush (v := 32) hx hb d_L_law_626 (by decide) ?_
  refine lv_lshl hx hb d_L_law_628 rfl ?_
  refine lv_aload_n hx hb d_L_law_629 rfl (lv_at hl 0 rfl) ?_
  refine lv_iload hx hb d_L_law_630 (lv_at hl 4 rfl) ?_
  refine lv_iconst (v := 5) hx hb d_L_law_632 (by decide) ?_
  refine lv_iadd hx hb d_L_law_633 ?_
  refine l_sld hx hb hX hbl hbA hS i5 v5 d_L_law_634 ?_
  refine lv_i2l hx hb d_L_law_635 rfl ?_
  refine lv_ldc2 (v := 4294967295) hx hb hown (hg _ wg_376) d_L_law_636 ?_
  refine lv_land hx hb d_L_law_639 ?_
  refine lv_lor hx hb d_L_law_640 ?_
  refine lv_topl (fun z_7 ez_7 => ?_)
  obtain rfl : x4 = z_7 := (ez_7.trans ex4).symm
  refine lv_aload_n hx hb d_L_law_641 rfl (lv_at hl 0 rfl) ?_
  refine lv_iload hx hb d_L_law_642 (lv_at hl 4 rfl) ?_
  refine lv_bipush (v := 6) hx hb d_L_law_644 (by decide) ?_
  refine lv_iadd hx hb d_L_law_646 ?_
  refine l_sld hx hb hX hbl hbA hS i6 v6 d_L_law_647 ?_
  refine lv_i2l hx hb d_L_law_648 rfl ?_
  refine lv_bipush (v := 32) hx hb d_L_law_649 (by decide) ?_
  refine lv_lshl hx hb d_L_law_651 rfl ?_
  refine lv_aload_n hx hb d_L_law_652 rfl (lv_at hl 0 rfl) ?_
  refine lv_iload hx hb d_L_law_653 (lv_at hl 4 rfl) ?_
  refine lv_bipush (v := 7) hx hb d_L_law_655 (by decide) ?_
  refine lv_iadd hx hb d_L_law_657 ?_
  refine l_sld hx hb hX hbl hbA hS i7 v7 d_L_law_658 ?_
  refine lv_i2l hx hb d_L_law_659 rfl ?_
  refine lv_ldc2 (v := 4294967295) hx hb hown (hg _ wg_376) d_L_law_660 ?_
  refine lv_land hx hb d_L_law_663 ?_
  refine lv_lor hx hb d_L_law_664 ?_
  refine lv_topl (fun z_8 ez_8 => ?_)
  obtain rfl : x6 = z_8 := (ez_8.trans ex6).symm
  have hPc := hP.sub (ws' := [(g, .inr (2, [.int cd, .int n, .ref (v 0), .ref (v 1), .ref (v 2), .ref (v 3), .ref (v 4), .ref (v 5), .ref (v 6), .int k, .ref (v 7)])), ((v 3), .inl (cI, 4, .inl rw_)), ((v 4), .inl (cJ, 64, .inr (.inl mx))), ((v 5), .inl (cJ, 64, .inr (.inl my))), ((v 6), .inl (cJ, 4, .inr (.inl bl)))]) [13, 17, 18, 19, 20] rfl
  have hDc := hD.sub (ws' := [(g, .inr (2, [.int cd, .int n, .ref (v 0), .ref (v 1), .ref (v 2), .ref (v 3), .ref (v 4), .ref (v 5), .ref (v 6), .int k, .ref (v 7)])), ((v 3), .inl (cI, 4, .inl rw_)), ((v 4), .inl (cJ, 64, .inr (.inl mx))), ((v 5), .inl (cJ, 64, .inr (.inl my))), ((v 6), .inl (cJ, 4, .inr (.inl bl)))]) [13, 17, 18, 19, 20] (by decide) rfl
  have hFc := va_free (wc := [(g, .inr (2, [.int cd, .int n, .ref (v 0), .ref (v 1), .ref (v 2), .ref (v 3), .ref (v 4), .ref (v 5), .ref (v 6), .int k, .ref (v 7)])), ((v 3), .inl (cI, 4, .inl rw_)), ((v 4), .inl (cJ, 64, .inr (.inl mx))), ((v 5), .inl (cJ, 64, .inr (.inl my))), ((v 6), .inl (cJ, 4, .inr (.inl bl)))]) hD hS hA [13, 17, 18, 19, 20] rfl
  refine va_calli (va_runV (As := [.int (nI 2), .long x2, .long x4, .long x6]) (rest := [.int r_5]) ⟨hx, hb, hml, hown, hg⟩ (k_M_row l dC dI cJ cI cT g (v 0) (v 1) (v 2) (v 3) (v 4) (v 5) (v 6) (v 7) cd n k rw_ mx my bl (nI 2) x2 x4 x6 _ (hr4_of hIT)) (q_V 4 hg wg_340 wg_337 wg_338 wg_339 wg_15 rfl rfl (by decide +kernel) ⟨(Nat.le_of_ble_eq_true rfl), (Nat.le_of_ble_eq_true rfl)⟩) ⟨wx_blind, va_recv hK hPc (ci := 2) (q0 := 0) rfl rfl, wx_pre (as := .ref g :: [.int (nI 2), .long x2, .long x4, .long x6]) hPc hK hDc⟩ rfl rfl hl.1 rfl (lv_room (Nat.le_of_ble_eq_true rfl)) d_L_law_665 ⟨Nat.le_trans (by omega) hc, Nat.le_trans (by omega) hs⟩) hS (fun q _ h => hFc q h) hFc (fun r_10 uu t H1 locs ht hvm hw_9 hB hz1 hk1 hS => ?_)
  obtain ⟨cd2, rw2, mx2, my2, bl2⟩ := uu
  obtain ⟨hP1, hK1, hD1⟩ := hB
  rw [ht] at hP1
  obtain ⟨hP, hD⟩ := va_join (wr := [((u 0), .inl (cJ, 500, .inr (.inl ab))), ((u 1), .inl (cJ, 500, .inr (.inl be))), ((u 2), .inl (cI, 500, .inl un)), ((u 3), .inl (cJ, 16, .inr (.inl we))), ((u 5), .inr (0, [.ref (u 9), .ref (u 13), .long (tb 0), .int (tc 0)])), ((u 9), .inl (cJ, 16, .inr (.inl (tx 0)))), ((u 13), .inl (cJ, 16, .inr (.inl (ty 0)))), ((u 6), .inr (0, [.ref (u 10), .ref (u 14), .long (tb 1), .int (tc 1)])), ((u 10), .inl (cJ, 16, .inr (.inl (tx 1)))), ((u 14), .inl (cJ, 16, .inr (.inl (ty 1)))), ((u 8), .inr (0, [.ref (u 12), .ref (u 16), .long (tb 3), .int (tc 3)])), ((u 12), .inl (cJ, 16, .inr (.inl (tx 3)))), ((u 16), .inl (cJ, 16, .inr (.inl (ty 3)))), ((v 0), .inl (cJ, 500, .inr (.inl up))), ((v 1), .inl (cJ, 500, .inr (.inl dn))), ((v 2), .inl (cI, 500, .inl mu)), ((v 7), .inl (cJ, 16, .inr (.inl mw))), (ao, .inl (cJ, 1, .inr (.inl o))), (h, .inr (1, [.ref (u 0), .ref (u 1), .ref (u 2), .int n, .ref (u 3), .int k, .ref (u 4)])), ((u 4), .inl (cT, 4, .inr (.inr (.inr (.inr (tf0 (u 5) (u 6) (u 7) (u 8))))))), ((u 7), .inr (0, [.ref (u 11), .ref (u 15), .long tb2, .int tc2])), ((u 11), .inl (cJ, 16, .inr (.inl tx2))), ((u 15), .inl (cJ, 16, .inr (.inl ty2)))]) (w1 := [(g, .inr (2, [.int cd2, .int n, .ref (v 0), .ref (v 1), .ref (v 2), .ref (v 3), .ref (v 4), .ref (v 5), .ref (v 6), .int k, .ref (v 7)])), ((v 3), .inl (cI, 4, .inl rw2)), ((v 4), .inl (cJ, 64, .inr (.inl mx2))), ((v 5), .inl (cJ, 64, .inr (.inl my2))), ((v 6), .inl (cJ, 4, .inr (.inl bl2)))]) hP hD [13, 17, 18, 19, 20] [0, 1, 2, 3, 4, 5, 6, 7, 8, 9, 10, 11, 12, 14, 15, 16, 21, 22, 23, 24, 25, 26, 27] rfl rfl (by decide) (by decide) hk1 hFc hP1 hD1
  generalize H1 = H at hP hS ⊢
  have hP : va_P (dC, dI) classes [((u 0), .inl (cJ, 500, .inr (.inl ab))), ((u 1), .inl (cJ, 500, .inr (.inl be))), ((u 2), .inl (cI, 500, .inl un)), ((u 3), .inl (cJ, 16, .inr (.inl we))), ((u 5), .inr (0, [.ref (u 9), .ref (u 13), .long (tb 0), .int (tc 0)])), ((u 9), .inl (cJ, 16, .inr (.inl (tx 0)))), ((u 13), .inl (cJ, 16, .inr (.inl (ty 0)))), ((u 6), .inr (0, [.ref (u 10), .ref (u 14), .long (tb 1), .int (tc 1)])), ((u 10), .inl (cJ, 16, .inr (.inl (tx 1)))), ((u 14), .inl (cJ, 16, .inr (.inl (ty 1)))), ((u 8), .inr (0, [.ref (u 12), .ref (u 16), .long (tb 3), .int (tc 3)])), ((u 12), .inl (cJ, 16, .inr (.inl (tx 3)))), ((u 16), .inl (cJ, 16, .inr (.inl (ty 3)))), ((v 0), .inl (cJ, 500, .inr (.inl up))), ((v 1), .inl (cJ, 500, .inr (.inl dn))), ((v 2), .inl (cI, 500, .inl mu)), ((v 7), .inl (cJ, 16, .inr (.inl mw))), (ao, .inl (cJ, 1, .inr (.inl o))), (h, .inr (1, [.ref (u 0), .ref (u 1), .ref (u 2), .int n, .ref (u 3), .int k, .ref (u 4)])), ((u 4), .inl (cT, 4, .inr (.inr (.inr (.inr (tf0 (u 5) (u 6) (u 7) (u 8))))))), ((u 7), .inr (0, [.ref (u 11), .ref (u 15), .long tb2, .int tc2])), ((u 11), .inl (cJ, 16, .inr (.inl tx2))), ((u 15), .inl (cJ, 16, .inr (.inl ty2))), (g, .inr (2, [.int cd2, .int n, .ref (v 0), .ref (v 1), .ref (v 2), .ref (v 3), .ref (v 4), .ref (v 5), .ref (v 6), .int k, .ref (v 7)])), ((v 3), .inl (cI, 4, .inl rw2)), ((v 4), .inl (cJ, 64, .inr (.inl mx2))), ((v 5), .inl (cJ, 64, .inr (.inl my2))), ((v 6), .inl (cJ, 4, .inr (.inl bl2)))] H := hP
  have hD : va_D (lA s) [((u 0), .inl (cJ, 500, .inr (.inl ab))), ((u 1), .inl (cJ, 500, .inr (.inl be))), ((u 2), .inl (cI, 500, .inl un)), ((u 3), .inl (cJ, 16, .inr (.inl we))), ((u 5), .inr (0, [.ref (u 9), .ref (u 13), .long (tb 0), .int (tc 0)])), ((u 9), .inl (cJ, 16, .inr (.inl (tx 0)))), ((u 13), .inl (cJ, 16, .inr (.inl (ty 0)))), ((u 6), .inr (0, [.ref (u 10), .ref (u 14), .long (tb 1), .int (tc 1)])), ((u 10), .inl (cJ, 16, .inr (.inl (tx 1)))), ((u 14), .inl (cJ, 16, .inr (.inl (ty 1)))), ((u 8), .inr (0, [.ref (u 12), .ref (u 16), .long (tb 3), .int (tc 3)])), ((u 12), .inl (cJ, 16, .inr (.inl (tx 3)))), ((u 16), .inl (cJ, 16, .inr (.inl (ty 3)))), ((v 0), .inl (cJ, 500, .inr (.inl up))), ((v 1), .inl (cJ, 500, .inr (.inl dn))), ((v 2), .inl (cI, 500, .inl mu)), ((v 7), .inl (cJ, 16, .inr (.inl mw))), (ao, .inl (cJ, 1, .inr (.inl o))), (h, .inr (1, [.ref (u 0), .ref (u 1), .ref (u 2), .int n, .ref (u 3), .int k, .ref (u 4)])), ((u 4), .inl (cT, 4, .inr (.inr (.inr (.inr (tf0 (u 5) (u 6) (u 7) (u 8))))))), ((u 7), .inr (0, [.ref (u 11), .ref (u 15), .long tb2, .int tc2])), ((u 11), .inl (cJ, 16, .inr (.inl tx2))), ((u 15), .inl (cJ, 16, .inr (.inl ty2))), (g, .inr (2, [.int cd2, .int n, .ref (v 0), .ref (v 1), .ref (v 2), .ref (v 3), .ref (v 4), .ref (v 5), .ref (v 6), .int k, .ref (v 7)])), ((v 3), .inl (cI, 4, .inl rw2)), ((v 4), .inl (cJ, 64, .inr (.inl mx2))), ((v 5), .inl (cJ, 64, .inr (.inl my2))), ((v 6), .inl (cJ, 4, .inr (.inl bl2)))] := hD
  obtain ⟨er, hIT⟩ := RW_use (by decide) hIT hw_4 hw_9
  refine lv_icmp_eq (tgt := 933) hx hb d_L_law_668 (by decide) (fun c_11 => ?_) (fun c_11 => ?_)
  · skip
    refine W.widen (k := cells + 1) (n := slots + 6) (by omega) (by omega) ?_
    exact kk _ _ _ ⟨u, v, n, k, cd2, ab, be, un, we, (up4 tx 2 tx2), (up4 ty 2 ty2), (up4 tb 2 tb2), (up4 tc 2 tc2), up, dn, mu, rw2, mx2, my2, bl2, mw, o, hP.sub (ws' := LW cJ cI cT h g ao u v n k cd2 ab be un we (up4 tx 2 tx2) (up4 ty 2 ty2) (up4 tb 2 tb2) (up4 tc 2 tc2) up dn mu rw2 mx2 my2 bl2 mw o) [18, 0, 1, 2, 3, 19, 4, 5, 6, 7, 8, 9, 20, 21, 22, 10, 11, 12, 23, 13, 14, 15, 24, 25, 26, 27, 16, 17] rfl, hD.sub (ws' := LW cJ cI cT h g ao u v n k cd2 ab be un we (up4 tx 2 tx2) (up4 ty 2 ty2) (up4 tb 2 tb2) (up4 tc 2 tc2) up dn mu rw2 mx2 my2 bl2 mw o) [18, 0, 1, 2, 3, 19, 4, 5, 6, 7, 8, 9, 20, 21, 22, 10, 11, 12, 23, 13, 14, 15, 24, 25, 26, 27, 16, 17] (by decide) rfl, hS, hIA, hIW, hIT⟩ (lv_sub hl [0, 1, 2, 3, 4] rfl)
  · skip
    exact absurd er c_11
set_option maxHeartbeats 4000000 in
set_option maxRecDepth 100000 in
theorem lc_row_3 (C0 : lw_At p s m meth c b L xs) (E0 : LE0 l s dC dI cJ cI cT) (hI : I + 8 ≤ L) (hL : L ≤ 4096) (hi : LI s dC dI cJ cI cT h g ao H locs) (hc : cells + 1 ≤ room_1.cells) (hs : slots + 6 ≤ room_1.slots) (v1 : xs (nI I + 1).toNatClampNeg = nI 3) (hl : lv_has ls 7 [(0, .ref b), (1, .ref h), (2, .ref g), (3, .ref ao), (4, .int (nI I))]) (kk : LK p l e s m below meth c b dC dI cJ cI cT h g ao I cells slots) : W p l e room_1 s m #[Value.ref b] below meth c H locs cells slots (lw_Z below #[Value.ref b] s) (F0 m 512 ls []) := by
  obtain ⟨hx, hb, hr, hml, hown, hts, hX, hbl, hlocks, hgv⟩ := C0
  obtain ⟨hlt, hK, hN, sa1, sa2, sa3, hT1, hT2, hT3⟩ := E0
  obtain ⟨u, v, n, k, cd, ab, be, un, we, tx, ty, tb, tc, up, dn, mu, rw_, mx, my, bl, mw, o, hP, hD, hS, hIA, hIW, hIT⟩ := hi
  have hown : s.vm.findClass R_L = some m.cls := hown
  have hg : ∀ w ∈ WG, w.before #[Value.ref b] s = true := fun w h => hts w (WG_ok w h).1
  have hA : ∀ q : Nat, s.heap.size ≤ q → lA s q := fun _ h => h
  have hbA : ¬ lA s b := Nat.not_le.mpr hbl
  have hP : va_P (dC, dI) classes [(h, .inr (1, [.ref (u 0), .ref (u 1), .ref (u 2), .int n, .ref (u 3), .int k, .ref (u 4)])), ((u 0), .inl (cJ, 500, .inr (.inl ab))), ((u 1), .inl (cJ, 500, .inr (.inl be))), ((u 2), .inl (cI, 500, .inl un)), ((u 3), .inl (cJ, 16, .inr (.inl we))), ((u 4), .inl (cT, 4, .inr (.inr (.inr (.inr (tf0 (u 5) (u 6) (u 7) (u 8))))))), ((u 5), .inr (0, [.ref (u 9), .ref (u 13), .long (tb 0), .int (tc 0)])), ((u 9), .inl (cJ, 16, .inr (.inl (tx 0)))), ((u 13), .inl (cJ, 16, .inr (.inl (ty 0)))), ((u 6), .inr (0, [.ref (u 10), .ref (u 14), .long (tb 1), .int (tc 1)])), ((u 10), .inl (cJ, 16, .inr (.inl (tx 1)))), ((u 14), .inl (cJ, 16, .inr (.inl (ty 1)))), ((u 7), .inr (0, [.ref (u 11), .ref (u 15), .long (tb 2), .int (tc 2)])), ((u 11), .inl (cJ, 16, .inr (.inl (tx 2)))), ((u 15), .inl (cJ, 16, .inr (.inl (ty 2)))), ((u 8), .inr (0, [.ref (u 12), .ref (u 16), .long (tb 3), .int (tc 3)])), ((u 12), .inl (cJ, 16, .inr (.inl (tx 3)))), ((u 16), .inl (cJ, 16, .inr (.inl (ty 3)))), (g, .inr (2, [.int cd, .int n, .ref (v 0), .ref (v 1), .ref (v 2), .ref (v 3), .ref (v 4), .ref (v 5), .ref (v 6), .int k, .ref (v 7)])), ((v 0), .inl (cJ, 500, .inr (.inl up))), ((v 1), .inl (cJ, 500, .inr (.inl dn))), ((v 2), .inl (cI, 500, .inl mu)), ((v 3), .inl (cI, 4, .inl rw_)), ((v 4), .inl (cJ, 64, .inr (.inl mx))), ((v 5), .inl (cJ, 64, .inr (.inl my))), ((v 6), .inl (cJ, 4, .inr (.inl bl))), ((v 7), .inl (cJ, 16, .inr (.inl mw))), (ao, .inl (cJ, 1, .inr (.inl o)))] H := hP
  have hD : va_D (lA s) [(h, .inr (1, [.ref (u 0), .ref (u 1), .ref (u 2), .int n, .ref (u 3), .int k, .ref (u 4)])), ((u 0), .inl (cJ, 500, .inr (.inl ab))), ((u 1), .inl (cJ, 500, .inr (.inl be))), ((u 2), .inl (cI, 500, .inl un)), ((u 3), .inl (cJ, 16, .inr (.inl we))), ((u 4), .inl (cT, 4, .inr (.inr (.inr (.inr (tf0 (u 5) (u 6) (u 7) (u 8))))))), ((u 5), .inr (0, [.ref (u 9), .ref (u 13), .long (tb 0), .int (tc 0)])), ((u 9), .inl (cJ, 16, .inr (.inl (tx 0)))), ((u 13), .inl (cJ, 16, .inr (.inl (ty 0)))), ((u 6), .inr (0, [.ref (u 10), .ref (u 14), .long (tb 1), .int (tc 1)])), ((u 10), .inl (cJ, 16, .inr (.inl (tx 1)))), ((u 14), .inl (cJ, 16, .inr (.inl (ty 1)))), ((u 7), .inr (0, [.ref (u 11), .ref (u 15), .long (tb 2), .int (tc 2)])), ((u 11), .inl (cJ, 16, .inr (.inl (tx 2)))), ((u 15), .inl (cJ, 16, .inr (.inl (ty 2)))), ((u 8), .inr (0, [.ref (u 12), .ref (u 16), .long (tb 3), .int (tc 3)])), ((u 12), .inl (cJ, 16, .inr (.inl (tx 3)))), ((u 16), .inl (cJ, 16, .inr (.inl (ty 3)))), (g, .inr (2, [.int cd, .int n, .ref (v 0), .ref (v 1), .ref (v 2), .ref (v 3), .ref (v 4), .ref (v 5), .ref (v 6), .int k, .ref (v 7)])), ((v 0), .inl (cJ, 500, .inr (.inl up))), ((v 1), .inl (cJ, 500, .inr (.inl dn))), ((v 2), .inl (cI, 500, .inl mu)), ((v 3), .inl (cI, 4, .inl rw_)), ((v 4), .inl (cJ, 64, .inr (.inl mx))), ((v 5), .inl (cJ, 64, .inr (.inl my))), ((v 6), .inl (cJ, 4, .inr (.inl bl))), ((v 7), .inl (cJ, 16, .inr (.inl mw))), (ao, .inl (cJ, 1, .inr (.inl o)))] := hD
  have hn0 := hIA.1
  have hn := hIA.2.1
  have hk0 := hIW.1
  have hk := hIW.2.1
  have i1 : vp_in (nI I + 1) L := in_I (k := 1) hI hL (by decide)
  have i2 : vp_in (nI I + 2) L := in_I (k := 2) hI hL (by decide)
  obtain ⟨w2, v2⟩ : ∃ w : Int32, xs (nI I + 2).toNatClampNeg = w := ⟨_, rfl⟩
  have i3 : vp_in (nI I + 3) L := in_I (k := 3) hI hL (by decide)
  obtain ⟨w3, v3⟩ : ∃ w : Int32, xs (nI I + 3).toNatClampNeg = w := ⟨_, rfl⟩
  have i4 : vp_in (nI I + 4) L := in_I (k := 4) hI hL (by decide)
  obtain ⟨w4, v4⟩ : ∃ w : Int32, xs (nI I + 4).toNatClampNeg = w := ⟨_, rfl⟩
  have i5 : vp_in (nI I + 5) L := in_I (k := 5) hI hL (by decide)
  obtain ⟨w5, v5⟩ : ∃ w : Int32, xs (nI I + 5).toNatClampNeg = w := ⟨_, rfl⟩
  have i6 : vp_in (nI I + 6) L := in_I (k := 6) hI hL (by decide)
  obtain ⟨w6, v6⟩ : ∃ w : Int32, xs (nI I + 6).toNatClampNeg = w := ⟨_, rfl⟩
  have i7 : vp_in (nI I + 7) L := in_I (k := 7) hI hL (by decide)
  obtain ⟨w7, v7⟩ : ∃ w : Int32, xs (nI I + 7).toNatClampNeg = w := ⟨_, rfl⟩
  obtain ⟨x2, ex2⟩ : ∃ x : Int64, (w2.toInt64 <<< ((32 : Int32).toInt64 &&& 63)) ||| (w3.toInt64 &&& 4294967295) = x := ⟨_, rfl⟩
  obtain ⟨x4, ex4⟩ : ∃ x : Int64, (w4.toInt64 <<< ((32 : Int32).toInt64 &&& 63)) ||| (w5.toInt64 &&& 4294967295) = x := ⟨_, rfl⟩
  obtain ⟨x6, ex6⟩ : ∃ x : Int64, (w6.toInt64 <<< ((32 : Int32).toInt64 &&& 63)) ||| (w7.toInt64 &&& 4294967295) = x := ⟨_, rfl⟩
  refine lv_aload_n hx hb d_L_law_512 rfl (lv_at hl 1 rfl) ?_
  refine lv_aload_n hx hb d_L_law_513 rfl (lv_at hl 0 rfl) ?_
  refine lv_iload hx hb d_L_law_514 (lv_at hl 4 rfl) ?_
  refine lv_iconst (v := 1) hx hb d_L_law_516 (by decide) ?_
  refine lv_iadd hx hb d_L_law_517 ?_
  refine l_sld hx hb hX hbl hbA hS i1 v1 d_L_law_518 ?_
  refine lv_aload_n hx hb d_L_law_519 rfl (lv_at hl 0 rfl) ?_
  refine lv_iload hx hb d_L_law_520 (lv_at hl 4 rfl) ?_
  refine lv_iconst (v := 2) hx hb d_L_law_522 (by decide) ?_
  refine lv_iadd hx hb d_L_law_523 ?_
  refine l_sld hx hb hX hbl hbA hS i2 v2 d_L_law_524 ?_
  refine lv_i2l hx hb d_L_law_525 rfl ?_
  refine lv_bipush (v := 32) hx hb d_L_law_526 (by decide) ?_
  refine lv_lshl hx hb d_L_law_528 rfl ?_
  refine lv_aload_n hx hb d_L_law_529 rfl (lv_at hl 0 rfl) ?_
  refine lv_iload hx hb d_L_law_530 (lv_at hl 4 rfl) ?_
  refine lv_iconst (v := 3) hx hb d_L_law_532 (by decide) ?_
  refine lv_iadd hx hb d_L_law_533 ?_
  refine l_sld hx hb hX hbl hbA hS i3 v3 d_L_law_534 ?_
  refine lv_i2l hx hb d_L_law_535 rfl ?_
  refine lv_ldc2 (v := 4294967295) hx hb hown (hg _ wg_376) d_L_law_536 ?_
  refine lv_land hx hb d_L_law_539 ?_
  refine lv_lor hx hb d_L_law_540 ?_
  refine lv_topl (fun z_1 ez_1 => ?_)
  obtain rfl : x2 = z_1 := (ez_1.trans ex2).symm
  refine lv_aload_n hx hb d_L_law_541 rfl (lv_at hl 0 rfl) ?_
  refine lv_iload hx hb d_L_law_542 (lv_at hl 4 rfl) ?_
  refine lv_iconst (v := 4) hx hb d_L_law_544 (by decide) ?_
  refine lv_iadd hx hb d_L_law_545 ?_
  refine l_sld hx hb hX hbl hbA hS i4 v4 d_L_law_546 ?_
  refine lv_i2l hx hb d_L_law_547 rfl ?_
  refine lv_bipush (v := 32) hx hb d_L_law_548 (by decide) ?_
  refine lv_lshl hx hb d_L_law_550 rfl ?_
  refine lv_aload_n hx hb d_L_law_551 rfl (lv_at hl 0 rfl) ?_
  refine lv_iload hx hb d_L_law_552 (lv_at hl 4 rfl) ?_
  refine lv_iconst (v := 5) hx hb d_L_law_554 (by decide) ?_
  refine lv_iadd hx hb d_L_law_555 ?_
  refine l_sld hx hb hX hbl hbA hS i5 v5 d_L_law_556 ?_
  refine lv_i2l hx hb d_L_law_557 rfl ?_
  refine lv_ldc2 (v := 4294967295) hx hb hown (hg _ wg_376) d_L_law_558 ?_
  refine lv_land hx hb d_L_law_561 ?_
  refine lv_lor hx hb d_L_law_562 ?_
  refine lv_topl (fun z_2 ez_2 => ?_)
  obtain rfl : x4 = z_2 := (ez_2.trans ex4).symm
  refine lv_aload_n hx hb d_L_law_563 rfl (lv_at hl 0 rfl) ?_
  refine lv_iload hx hb d_L_law_564 (lv_at hl 4 rfl) ?_
  refine lv_bipush (v := 6) hx hb d_L_law_566 (by decide) ?_
  refine lv_iadd hx hb d_L_law_568 ?_
  refine l_sld hx hb hX hbl hbA hS i6 v6 d_L_law_569 ?_
  refine lv_i2l hx hb d_L_law_570 rfl ?_
  refine lv_bipush (v := 32) hx hb d_L_law_571 (by decide) ?_
  refine lv_lshl hx hb d_L_law_573 rfl ?_
  refine lv_aload_n hx hb d_L_law_574 rfl (lv_at hl 0 rfl) ?_
  refine lv_iload hx hb d_L_law_575 (lv_at hl 4 rfl) ?_
  refine lv_bipush (v := 7) hx hb d_L_law_577 (by decide) ?_
  refine lv_iadd hx hb d_L_law_579 ?_
  refine l_sld hx hb hX hbl hbA hS i7 v7 d_L_law_580 ?_
  refine lv_i2l hx hb d_L_law_581 rfl ?_
  refine lv_ldc2 (v := 4294967295) hx hb hown (hg _ wg_376) d_L_law_582 ?_
  refine lv_land hx hb d_L_law_585 ?_
  refine lv_lor hx hb d_L_law_586 ?_
  refine lv_topl (fun z_3 ez_3 => ?_)
  obtain rfl : x6 = z_3 := (ez_3.trans ex6).symm
  have hPc := hP.sub (ws' := [(h, .inr (1, [.ref (u 0), .ref (u 1), .ref (u 2), .int n, .ref (u 3), .int k, .ref (u 4)])), ((u 4), .inl (cT, 4, .inr (.inr (.inr (.inr (tf0 (u 5) (u 6) (u 7) (u 8))))))), ((u 8), .inr (0, [.ref (u 12), .ref (u 16), .long (tb 3), .int (tc 3)])), ((u 12), .inl (cJ, 16, .inr (.inl (tx 3)))), ((u 16), .inl (cJ, 16, .inr (.inl (ty 3))))]) [0, 5, 15, 16, 17] rfl
  have hDc := hD.sub (ws' := [(h, .inr (1, [.ref (u 0), .ref (u 1), .ref (u 2), .int n, .ref (u 3), .int k, .ref (u 4)])), ((u 4), .inl (cT, 4, .inr (.inr (.inr (.inr (tf0 (u 5) (u 6) (u 7) (u 8))))))), ((u 8), .inr (0, [.ref (u 12), .ref (u 16), .long (tb 3), .int (tc 3)])), ((u 12), .inl (cJ, 16, .inr (.inl (tx 3)))), ((u 16), .inl (cJ, 16, .inr (.inl (ty 3))))]) [0, 5, 15, 16, 17] (by decide) rfl
  have hFc := va_free (wc := [(h, .inr (1, [.ref (u 0), .ref (u 1), .ref (u 2), .int n, .ref (u 3), .int k, .ref (u 4)])), ((u 4), .inl (cT, 4, .inr (.inr (.inr (.inr (tf0 (u 5) (u 6) (u 7) (u 8))))))), ((u 8), .inr (0, [.ref (u 12), .ref (u 16), .long (tb 3), .int (tc 3)])), ((u 12), .inl (cJ, 16, .inr (.inl (tx 3)))), ((u 16), .inl (cJ, 16, .inr (.inl (ty 3))))]) hD hS hA [0, 5, 15, 16, 17] rfl
  refine va_calli (va_runV (As := [.int (nI 3), .long x2, .long x4, .long x6]) (rest := []) ⟨hx, hb, hml, hown, hg⟩ (k_X_row l dC dI cJ cI cT h (u 0) (u 1) (u 2) (u 3) (u 4) n k (tf0 (u 5) (u 6) (u 7) (u 8)) (u 8) (u 12) (u 16) (tb 3) (tc 3) (tx 3) (ty 3) (nI 3) x2 x4 x6 _ (tab_3 _ _ _ _) (hIT 3 (by decide)).1) (q_V 4 hg wg_119 wg_116 wg_117 wg_118 wg_13 rfl rfl (by decide +kernel) ⟨(Nat.le_of_ble_eq_true rfl), (Nat.le_of_ble_eq_true rfl)⟩) ⟨and_blind wx_blind nwd_blind, va_recv hK hPc (ci := 1) (q0 := 0) rfl rfl, and_pre (wx_pre (as := .ref h :: [.int (nI 3), .long x2, .long x4, .long x6]) hPc hK hDc) (nwd_pre hN)⟩ rfl rfl hl.1 rfl (lv_room (Nat.le_of_ble_eq_true rfl)) d_L_law_587 ⟨Nat.le_trans (by omega) hc, Nat.le_trans (by omega) hs⟩) hS (fun q _ h => hFc q h) hFc (fun r_5 uu t H1 locs ht hvm hw_4 hB hz1 hk1 hS => ?_)
  obtain ⟨tx2, ty2, tb2, tc2⟩ := uu
  obtain ⟨hP1, hK1, hD1⟩ := hB
  rw [ht] at hP1
  obtain ⟨hP, hD⟩ := va_join (wr := [((u 0), .inl (cJ, 500, .inr (.inl ab))), ((u 1), .inl (cJ, 500, .inr (.inl be))), ((u 2), .inl (cI, 500, .inl un)), ((u 3), .inl (cJ, 16, .inr (.inl we))), ((u 5), .inr (0, [.ref (u 9), .ref (u 13), .long (tb 0), .int (tc 0)])), ((u 9), .inl (cJ, 16, .inr (.inl (tx 0)))), ((u 13), .inl (cJ, 16, .inr (.inl (ty 0)))), ((u 6), .inr (0, [.ref (u 10), .ref (u 14), .long (tb 1), .int (tc 1)])), ((u 10), .inl (cJ, 16, .inr (.inl (tx 1)))), ((u 14), .inl (cJ, 16, .inr (.inl (ty 1)))), ((u 7), .inr (0, [.ref (u 11), .ref (u 15), .long (tb 2), .int (tc 2)])), ((u 11), .inl (cJ, 16, .inr (.inl (tx 2)))), ((u 15), .inl (cJ, 16, .inr (.inl (ty 2)))), (g, .inr (2, [.int cd, .int n, .ref (v 0), .ref (v 1), .ref (v 2), .ref (v 3), .ref (v 4), .ref (v 5), .ref (v 6), .int k, .ref (v 7)])), ((v 0), .inl (cJ, 500, .inr (.inl up))), ((v 1), .inl (cJ, 500, .inr (.inl dn))), ((v 2), .inl (cI, 500, .inl mu)), ((v 3), .inl (cI, 4, .inl rw_)), ((v 4), .inl (cJ, 64, .inr (.inl mx))), ((v 5), .inl (cJ, 64, .inr (.inl my))), ((v 6), .inl (cJ, 4, .inr (.inl bl))), ((v 7), .inl (cJ, 16, .inr (.inl mw))), (ao, .inl (cJ, 1, .inr (.inl o)))]) (w1 := [(h, .inr (1, [.ref (u 0), .ref (u 1), .ref (u 2), .int n, .ref (u 3), .int k, .ref (u 4)])), ((u 4), .inl (cT, 4, .inr (.inr (.inr (.inr (tf0 (u 5) (u 6) (u 7) (u 8))))))), ((u 8), .inr (0, [.ref (u 12), .ref (u 16), .long tb2, .int tc2])), ((u 12), .inl (cJ, 16, .inr (.inl tx2))), ((u 16), .inl (cJ, 16, .inr (.inl ty2)))]) hP hD [0, 5, 15, 16, 17] [1, 2, 3, 4, 6, 7, 8, 9, 10, 11, 12, 13, 14, 18, 19, 20, 21, 22, 23, 24, 25, 26, 27] rfl rfl (by decide) (by decide) hk1 hFc hP1 hD1
  generalize H1 = H at hP hS ⊢
  have hP : va_P (dC, dI) classes [((u 0), .inl (cJ, 500, .inr (.inl ab))), ((u 1), .inl (cJ, 500, .inr (.inl be))), ((u 2), .inl (cI, 500, .inl un)), ((u 3), .inl (cJ, 16, .inr (.inl we))), ((u 5), .inr (0, [.ref (u 9), .ref (u 13), .long (tb 0), .int (tc 0)])), ((u 9), .inl (cJ, 16, .inr (.inl (tx 0)))), ((u 13), .inl (cJ, 16, .inr (.inl (ty 0)))), ((u 6), .inr (0, [.ref (u 10), .ref (u 14), .long (tb 1), .int (tc 1)])), ((u 10), .inl (cJ, 16, .inr (.inl (tx 1)))), ((u 14), .inl (cJ, 16, .inr (.inl (ty 1)))), ((u 7), .inr (0, [.ref (u 11), .ref (u 15), .long (tb 2), .int (tc 2)])), ((u 11), .inl (cJ, 16, .inr (.inl (tx 2)))), ((u 15), .inl (cJ, 16, .inr (.inl (ty 2)))), (g, .inr (2, [.int cd, .int n, .ref (v 0), .ref (v 1), .ref (v 2), .ref (v 3), .ref (v 4), .ref (v 5), .ref (v 6), .int k, .ref (v 7)])), ((v 0), .inl (cJ, 500, .inr (.inl up))), ((v 1), .inl (cJ, 500, .inr (.inl dn))), ((v 2), .inl (cI, 500, .inl mu)), ((v 3), .inl (cI, 4, .inl rw_)), ((v 4), .inl (cJ, 64, .inr (.inl mx))), ((v 5), .inl (cJ, 64, .inr (.inl my))), ((v 6), .inl (cJ, 4, .inr (.inl bl))), ((v 7), .inl (cJ, 16, .inr (.inl mw))), (ao, .inl (cJ, 1, .inr (.inl o))), (h, .inr (1, [.ref (u 0), .ref (u 1), .ref (u 2), .int n, .ref (u 3), .int k, .ref (u 4)])), ((u 4), .inl (cT, 4, .inr (.inr (.inr (.inr (tf0 (u 5) (u 6) (u 7) (u 8))))))), ((u 8), .inr (0, [.ref (u 12), .ref (u 16), .long tb2, .int tc2])), ((u 12), .inl (cJ, 16, .inr (.inl tx2))), ((u 16), .inl (cJ, 16, .inr (.inl ty2)))] H := hP
  have hD : va_D (lA s) [((u 0), .inl (cJ, 500, .inr (.inl ab))), ((u 1), .inl (cJ, 500, .inr (.inl be))), ((u 2), .inl (cI, 500, .inl un)), ((u 3), .inl (cJ, 16, .inr (.inl we))), ((u 5), .inr (0, [.ref (u 9), .ref (u 13), .long (tb 0), .int (tc 0)])), ((u 9), .inl (cJ, 16, .inr (.inl (tx 0)))), ((u 13), .inl (cJ, 16, .inr (.inl (ty 0)))), ((u 6), .inr (0, [.ref (u 10), .ref (u 14), .long (tb 1), .int (tc 1)])), ((u 10), .inl (cJ, 16, .inr (.inl (tx 1)))), ((u 14), .inl (cJ, 16, .inr (.inl (ty 1)))), ((u 7), .inr (0, [.ref (u 11), .ref (u 15), .long (tb 2), .int (tc 2)])), ((u 11), .inl (cJ, 16, .inr (.inl (tx 2)))), ((u 15), .inl (cJ, 16, .inr (.inl (ty 2)))), (g, .inr (2, [.int cd, .int n, .ref (v 0), .ref (v 1), .ref (v 2), .ref (v 3), .ref (v 4), .ref (v 5), .ref (v 6), .int k, .ref (v 7)])), ((v 0), .inl (cJ, 500, .inr (.inl up))), ((v 1), .inl (cJ, 500, .inr (.inl dn))), ((v 2), .inl (cI, 500, .inl mu)), ((v 3), .inl (cI, 4, .inl rw_)), ((v 4), .inl (cJ, 64, .inr (.inl mx))), ((v 5), .inl (cJ, 64, .inr (.inl my))), ((v 6), .inl (cJ, 4, .inr (.inl bl))), ((v 7), .inl (cJ, 16, .inr (.inl mw))), (ao, .inl (cJ, 1, .inr (.inl o))), (h, .inr (1, [.ref (u 0), .ref (u 1), .ref (u 2), .int n, .ref (u 3), .int k, .ref (u 4)])), ((u 4), .inl (cT, 4, .inr (.inr (.inr (.inr (tf0 (u 5) (u 6) (u 7) (u 8))))))), ((u 8), .inr (0, [.ref (u 12), .ref (u 16), .long tb2, .int tc2])), ((u 12), .inl (cJ, 16, .inr (.inl tx2))), ((u 16), .inl (cJ, 16, .inr (.inl ty2)))] := hD
  refine lv_aload_n hx hb d_L_law_590 rfl (lv_at hl 2 rfl) ?_
  refine lv_aload_n hx hb d_L_law_591 rfl (lv_at hl 0 rfl) ?_
  refine lv_iload hx hb d_L_law_592 (lv_at hl 4 rfl) ?_
  refine lv_iconst (v := 1) hx hb d_L_law_594 (by decide) ?_
  refine lv_iadd hx hb d_L_law_595 ?_
  refine l_sld hx hb hX hbl hbA hS i1 v1 d_L_law_596 ?_
  refine lv_aload_n hx hb d_L_law_597 rfl (lv_at hl 0 rfl) ?_
  refine lv_iload hx hb d_L_law_598 (lv_at hl 4 rfl) ?_
  refine lv_iconst (v := 2) hx hb d_L_law_600 (by decide) ?_
  refine lv_iadd hx hb d_L_law_601 ?_
  refine l_sld hx hb hX hbl hbA hS i2 v2 d_L_law_602 ?_
  refine lv_i2l hx hb d_L_law_603 rfl ?_
  refine lv_bipush (v := 32) hx hb d_L_law_604 (by decide) ?_
  refine lv_lshl hx hb d_L_law_606 rfl ?_
  refine lv_aload_n hx hb d_L_law_607 rfl (lv_at hl 0 rfl) ?_
  refine lv_iload hx hb d_L_law_608 (lv_at hl 4 rfl) ?_
  refine lv_iconst (v := 3) hx hb d_L_law_610 (by decide) ?_
  refine lv_iadd hx hb d_L_law_611 ?_
  refine l_sld hx hb hX hbl hbA hS i3 v3 d_L_law_612 ?_
  refine lv_i2l hx hb d_L_law_613 rfl ?_
  refine lv_ldc2 (v := 4294967295) hx hb hown (hg _ wg_376) d_L_law_614 ?_
  refine lv_land hx hb d_L_law_617 ?_
  refine lv_lor hx hb d_L_law_618 ?_
  refine lv_topl (fun z_6 ez_6 => ?_)
  obtain rfl : x2 = z_6 := (ez_6.trans ex2).symm
  refine lv_aload_n hx hb d_L_law_619 rfl (lv_at hl 0 rfl) ?_
  refine lv_iload hx hb d_L_law_620 (lv_at hl 4 rfl) ?_
  refine lv_iconst (v := 4) hx hb d_L_law_622 (by decide) ?_
  refine lv_iadd hx hb d_L_law_623 ?_
  refine l_sld hx hb hX hbl hbA hS i4 v4 d_L_law_624 ?_
  refine lv_i2l hx hb d_L_law_625 rfl ?_
  refine lv_bipush (v := 32) hx hb d_L_law_626 (by decide) ?_
  refine lv_lshl hx hb d_L_law_628 rfl ?_
  refine lv_aload_n hx hb d_L_law_629 rfl (lv_at hl 0 rfl) ?_
  refine lv_iload hx hb d_L_law_630 (lv_at hl 4 rfl) ?_
  refine lv_iconst (v := 5) hx hb d_L_law_632 (by decide) ?_
  refine lv_iadd hx hb d_L_law_633 ?_
  refine l_sld hx hb hX hbl hbA hS i5 v5 d_L_law_634 ?_
  refine lv_i2l hx hb d_L_law_635 rfl ?_
  refine lv_ldc2 (v := 4294967295) hx hb hown (hg _ wg_376) d_L_law_636 ?_
  refine lv_land hx hb d_L_law_639 ?_
  refine lv_lor hx hb d_L_law_640 ?_
  refine lv_topl (fun z_7 ez_7 => ?_)
  obtain rfl : x4 = z_7 := (ez_7.trans ex4).symm
  refine lv_aload_n hx hb d_L_law_641 rfl (lv_at hl 0 rfl) ?_
  refine lv_iload hx hb d_L_law_642 (lv_at hl 4 rfl) ?_
  refine lv_bipush (v := 6) hx hb d_L_law_644 (by decide) ?_
  refine lv_iadd hx hb d_L_law_646 ?_
  refine l_sld hx hb hX hbl hbA hS i6 v6 d_L_law_647 ?_
  refine lv_i2l hx hb d_L_law_648 rfl ?_
  refine lv_bipush (v := 32) hx hb d_L_law_649 (by decide) ?_
  refine lv_lshl hx hb d_L_law_651 rfl ?_
  refine lv_aload_n hx hb d_L_law_652 rfl (lv_at hl 0 rfl) ?_
  refine lv_iload hx hb d_L_law_653 (lv_at hl 4 rfl) ?_
  refine lv_bipush (v := 7) hx hb d_L_law_655 (by decide) ?_
  refine lv_iadd hx hb d_L_law_657 ?_
  refine l_sld hx hb hX hbl hbA hS i7 v7 d_L_law_658 ?_
  refine lv_i2l hx hb d_L_law_659 rfl ?_
  refine lv_ldc2 (v := 4294967295) hx hb hown (hg _ wg_376) d_L_law_660 ?_
  refine lv_land hx hb d_L_law_663 ?_
  refine lv_lor hx hb d_L_law_664 ?_
  refine lv_topl (fun z_8 ez_8 => ?_)
  obtain rfl : x6 = z_8 := (ez_8.trans ex6).symm
  have hPc := hP.sub (ws' := [(g, .inr (2, [.int cd, .int n, .ref (v 0), .ref (v 1), .ref (v 2), .ref (v 3), .ref (v 4), .ref (v 5), .ref (v 6), .int k, .ref (v 7)])), ((v 3), .inl (cI, 4, .inl rw_)), ((v 4), .inl (cJ, 64, .inr (.inl mx))), ((v 5), .inl (cJ, 64, .inr (.inl my))), ((v 6), .inl (cJ, 4, .inr (.inl bl)))]) [13, 17, 18, 19, 20] rfl
  have hDc := hD.sub (ws' := [(g, .inr (2, [.int cd, .int n, .ref (v 0), .ref (v 1), .ref (v 2), .ref (v 3), .ref (v 4), .ref (v 5), .ref (v 6), .int k, .ref (v 7)])), ((v 3), .inl (cI, 4, .inl rw_)), ((v 4), .inl (cJ, 64, .inr (.inl mx))), ((v 5), .inl (cJ, 64, .inr (.inl my))), ((v 6), .inl (cJ, 4, .inr (.inl bl)))]) [13, 17, 18, 19, 20] (by decide) rfl
  have hFc := va_free (wc := [(g, .inr (2, [.int cd, .int n, .ref (v 0), .ref (v 1), .ref (v 2), .ref (v 3), .ref (v 4), .ref (v 5), .ref (v 6), .int k, .ref (v 7)])), ((v 3), .inl (cI, 4, .inl rw_)), ((v 4), .inl (cJ, 64, .inr (.inl mx))), ((v 5), .inl (cJ, 64, .inr (.inl my))), ((v 6), .inl (cJ, 4, .inr (.inl bl)))]) hD hS hA [13, 17, 18, 19, 20] rfl
  refine va_calli (va_runV (As := [.int (nI 3), .long x2, .long x4, .long x6]) (rest := [.int r_5]) ⟨hx, hb, hml, hown, hg⟩ (k_M_row l dC dI cJ cI cT g (v 0) (v 1) (v 2) (v 3) (v 4) (v 5) (v 6) (v 7) cd n k rw_ mx my bl (nI 3) x2 x4 x6 _ (hr4_of hIT)) (q_V 4 hg wg_340 wg_337 wg_338 wg_339 wg_15 rfl rfl (by decide +kernel) ⟨(Nat.le_of_ble_eq_true rfl), (Nat.le_of_ble_eq_true rfl)⟩) ⟨wx_blind, va_recv hK hPc (ci := 2) (q0 := 0) rfl rfl, wx_pre (as := .ref g :: [.int (nI 3), .long x2, .long x4, .long x6]) hPc hK hDc⟩ rfl rfl hl.1 rfl (lv_room (Nat.le_of_ble_eq_true rfl)) d_L_law_665 ⟨Nat.le_trans (by omega) hc, Nat.le_trans (by omega) hs⟩) hS (fun q _ h => hFc q h) hFc (fun r_10 uu t H1 locs ht hvm hw_9 hB hz1 hk1 hS => ?_)
  obtain ⟨cd2, rw2, mx2, my2, bl2⟩ := uu
  obtain ⟨hP1, hK1, hD1⟩ := hB
  rw [ht] at hP1
  obtain ⟨hP, hD⟩ := va_join (wr := [((u 0), .inl (cJ, 500, .inr (.inl ab))), ((u 1), .inl (cJ, 500, .inr (.inl be))), ((u 2), .inl (cI, 500, .inl un)), ((u 3), .inl (cJ, 16, .inr (.inl we))), ((u 5), .inr (0, [.ref (u 9), .ref (u 13), .long (tb 0), .int (tc 0)])), ((u 9), .inl (cJ, 16, .inr (.inl (tx 0)))), ((u 13), .inl (cJ, 16, .inr (.inl (ty 0)))), ((u 6), .inr (0, [.ref (u 10), .ref (u 14), .long (tb 1), .int (tc 1)])), ((u 10), .inl (cJ, 16, .inr (.inl (tx 1)))), ((u 14), .inl (cJ, 16, .inr (.inl (ty 1)))), ((u 7), .inr (0, [.ref (u 11), .ref (u 15), .long (tb 2), .int (tc 2)])), ((u 11), .inl (cJ, 16, .inr (.inl (tx 2)))), ((u 15), .inl (cJ, 16, .inr (.inl (ty 2)))), ((v 0), .inl (cJ, 500, .inr (.inl up))), ((v 1), .inl (cJ, 500, .inr (.inl dn))), ((v 2), .inl (cI, 500, .inl mu)), ((v 7), .inl (cJ, 16, .inr (.inl mw))), (ao, .inl (cJ, 1, .inr (.inl o))), (h, .inr (1, [.ref (u 0), .ref (u 1), .ref (u 2), .int n, .ref (u 3), .int k, .ref (u 4)])), ((u 4), .inl (cT, 4, .inr (.inr (.inr (.inr (tf0 (u 5) (u 6) (u 7) (u 8))))))), ((u 8), .inr (0, [.ref (u 12), .ref (u 16), .long tb2, .int tc2])), ((u 12), .inl (cJ, 16, .inr (.inl tx2))), ((u 16), .inl (cJ, 16, .inr (.inl ty2)))]) (w1 := [(g, .inr (2, [.int cd2, .int n, .ref (v 0), .ref (v 1), .ref (v 2), .ref (v 3), .ref (v 4), .ref (v 5), .ref (v 6), .int k, .ref (v 7)])), ((v 3), .inl (cI, 4, .inl rw2)), ((v 4), .inl (cJ, 64, .inr (.inl mx2))), ((v 5), .inl (cJ, 64, .inr (.inl my2))), ((v 6), .inl (cJ, 4, .inr (.inl bl2)))]) hP hD [13, 17, 18, 19, 20] [0, 1, 2, 3, 4, 5, 6, 7, 8, 9, 10, 11, 12, 14, 15, 16, 21, 22, 23, 24, 25, 26, 27] rfl rfl (by decide) (by decide) hk1 hFc hP1 hD1
  generalize H1 = H at hP hS ⊢
  have hP : va_P (dC, dI) classes [((u 0), .inl (cJ, 500, .inr (.inl ab))), ((u 1), .inl (cJ, 500, .inr (.inl be))), ((u 2), .inl (cI, 500, .inl un)), ((u 3), .inl (cJ, 16, .inr (.inl we))), ((u 5), .inr (0, [.ref (u 9), .ref (u 13), .long (tb 0), .int (tc 0)])), ((u 9), .inl (cJ, 16, .inr (.inl (tx 0)))), ((u 13), .inl (cJ, 16, .inr (.inl (ty 0)))), ((u 6), .inr (0, [.ref (u 10), .ref (u 14), .long (tb 1), .int (tc 1)])), ((u 10), .inl (cJ, 16, .inr (.inl (tx 1)))), ((u 14), .inl (cJ, 16, .inr (.inl (ty 1)))), ((u 7), .inr (0, [.ref (u 11), .ref (u 15), .long (tb 2), .int (tc 2)])), ((u 11), .inl (cJ, 16, .inr (.inl (tx 2)))), ((u 15), .inl (cJ, 16, .inr (.inl (ty 2)))), ((v 0), .inl (cJ, 500, .inr (.inl up))), ((v 1), .inl (cJ, 500, .inr (.inl dn))), ((v 2), .inl (cI, 500, .inl mu)), ((v 7), .inl (cJ, 16, .inr (.inl mw))), (ao, .inl (cJ, 1, .inr (.inl o))), (h, .inr (1, [.ref (u 0), .ref (u 1), .ref (u 2), .int n, .ref (u 3), .int k, .ref (u 4)])), ((u 4), .inl (cT, 4, .inr (.inr (.inr (.inr (tf0 (u 5) (u 6) (u 7) (u 8))))))), ((u 8), .inr (0, [.ref (u 12), .ref (u 16), .long tb2, .int tc2])), ((u 12), .inl (cJ, 16, .inr (.inl tx2))), ((u 16), .inl (cJ, 16, .inr (.inl ty2))), (g, .inr (2, [.int cd2, .int n, .ref (v 0), .ref (v 1), .ref (v 2), .ref (v 3), .ref (v 4), .ref (v 5), .ref (v 6), .int k, .ref (v 7)])), ((v 3), .inl (cI, 4, .inl rw2)), ((v 4), .inl (cJ, 64, .inr (.inl mx2))), ((v 5), .inl (cJ, 64, .inr (.inl my2))), ((v 6), .inl (cJ, 4, .inr (.inl bl2)))] H := hP
  have hD : va_D (lA s) [((u 0), .inl (cJ, 500, .inr (.inl ab))), ((u 1), .inl (cJ, 500, .inr (.inl be))), ((u 2), .inl (cI, 500, .inl un)), ((u 3), .inl (cJ, 16, .inr (.inl we))), ((u 5), .inr (0, [.ref (u 9), .ref (u 13), .long (tb 0), .int (tc 0)])), ((u 9), .inl (cJ, 16, .inr (.inl (tx 0)))), ((u 13), .inl (cJ, 16, .inr (.inl (ty 0)))), ((u 6), .inr (0, [.ref (u 10), .ref (u 14), .long (tb 1), .int (tc 1)])), ((u 10), .inl (cJ, 16, .inr (.inl (tx 1)))), ((u 14), .inl (cJ, 16, .inr (.inl (ty 1)))), ((u 7), .inr (0, [.ref (u 11), .ref (u 15), .long (tb 2), .int (tc 2)])), ((u 11), .inl (cJ, 16, .inr (.inl (tx 2)))), ((u 15), .inl (cJ, 16, .inr (.inl (ty 2)))), ((v 0), .inl (cJ, 500, .inr (.inl up))), ((v 1), .inl (cJ, 500, .inr (.inl dn))), ((v 2), .inl (cI, 500, .inl mu)), ((v 7), .inl (cJ, 16, .inr (.inl mw))), (ao, .inl (cJ, 1, .inr (.inl o))), (h, .inr (1, [.ref (u 0), .ref (u 1), .ref (u 2), .int n, .ref (u 3), .int k, .ref (u 4)])), ((u 4), .inl (cT, 4, .inr (.inr (.inr (.inr (tf0 (u 5) (u 6) (u 7) (u 8))))))), ((u 8), .inr (0, [.ref (u 12), .ref (u 16), .long tb2, .int tc2])), ((u 12), .inl (cJ, 16, .inr (.inl tx2))), ((u 16), .inl (cJ, 16, .inr (.inl ty2))), (g, .inr (2, [.int cd2, .int n, .ref (v 0), .ref (v 1), .ref (v 2), .ref (v 3), .ref (v 4), .ref (v 5), .ref (v 6), .int k, .ref (v 7)])), ((v 3), .inl (cI, 4, .inl rw2)), ((v 4), .inl (cJ, 64, .inr (.inl mx2))), ((v 5), .inl (cJ, 64, .inr (.inl my2))), ((v 6), .inl (cJ, 4, .inr (.inl bl2)))] := hD
  obtain ⟨er, hIT⟩ := RW_use (by decide) hIT hw_4 hw_9
  refine lv_icmp_eq (tgt := 933) hx hb d_L_law_668 (by decide) (fun c_11 => ?_) (fun c_11 => ?_)
  · skip
    refine W.widen (k := cells + 1) (n := slots + 6) (by omega) (by omega) ?_
    exact kk _ _ _ ⟨u, v, n, k, cd2, ab, be, un, we, (up4 tx 3 tx2), (up4 ty 3 ty2), (up4 tb 3 tb2), (up4 tc 3 tc2), up, dn, mu, rw2, mx2, my2, bl2, mw, o, hP.sub (ws' := LW cJ cI cT h g ao u v n k cd2 ab be un we (up4 tx 3 tx2) (up4 ty 3 ty2) (up4 tb 3 tb2) (up4 tc 3 tc2) up dn mu rw2 mx2 my2 bl2 mw o) [18, 0, 1, 2, 3, 19, 4, 5, 6, 7, 8, 9, 10, 11, 12, 20, 21, 22, 23, 13, 14, 15, 24, 25, 26, 27, 16, 17] rfl, hD.sub (ws' := LW cJ cI cT h g ao u v n k cd2 ab be un we (up4 tx 3 tx2) (up4 ty 3 ty2) (up4 tb 3 tb2) (up4 tc 3 tc2) up dn mu rw2 mx2 my2 bl2 mw o) [18, 0, 1, 2, 3, 19, 4, 5, 6, 7, 8, 9, 10, 11, 12, 20, 21, 22, 23, 13, 14, 15, 24, 25, 26, 27, 16, 17] (by decide) rfl, hS, hIA, hIW, hIT⟩ (lv_sub hl [0, 1, 2, 3, 4] rfl)
  · skip
    exact absurd er c_11
set_option maxHeartbeats 4000000 in
set_option maxRecDepth 100000 in
theorem lc_row_o (C0 : lw_At p s m meth c b L xs) (E0 : LE0 l s dC dI cJ cI cT) (hI : I + 8 ≤ L) (hL : L ≤ 4096) (hi : LI s dC dI cJ cI cT h g ao H locs) (hc : cells + 1 ≤ room_1.cells) (hs : slots + 6 ≤ room_1.slots) {w1 : Int32} (hO : w1 < 0 ∨ 4 ≤ w1) (v1 : xs (nI I + 1).toNatClampNeg = w1) (hl : lv_has ls 7 [(0, .ref b), (1, .ref h), (2, .ref g), (3, .ref ao), (4, .int (nI I))]) (kk : LK p l e s m below meth c b dC dI cJ cI cT h g ao I cells slots) : W p l e room_1 s m #[Value.ref b] below meth c H locs cells slots (lw_Z below #[Value.ref b] s) (F0 m 512 ls []) := by
  obtain ⟨hx, hb, hr, hml, hown, hts, hX, hbl, hlocks, hgv⟩ := C0
  obtain ⟨hlt, hK, hN, sa1, sa2, sa3, hT1, hT2, hT3⟩ := E0
  obtain ⟨u, v, n, k, cd, ab, be, un, we, tx, ty, tb, tc, up, dn, mu, rw_, mx, my, bl, mw, o, hP, hD, hS, hIA, hIW, hIT⟩ := hi
  have hown : s.vm.findClass R_L = some m.cls := hown
  have hg : ∀ w ∈ WG, w.before #[Value.ref b] s = true := fun w h => hts w (WG_ok w h).1
  have hA : ∀ q : Nat, s.heap.size ≤ q → lA s q := fun _ h => h
  have hbA : ¬ lA s b := Nat.not_le.mpr hbl
  have hP : va_P (dC, dI) classes [(h, .inr (1, [.ref (u 0), .ref (u 1), .ref (u 2), .int n, .ref (u 3), .int k, .ref (u 4)])), ((u 0), .inl (cJ, 500, .inr (.inl ab))), ((u 1), .inl (cJ, 500, .inr (.inl be))), ((u 2), .inl (cI, 500, .inl un)), ((u 3), .inl (cJ, 16, .inr (.inl we))), ((u 4), .inl (cT, 4, .inr (.inr (.inr (.inr (tf0 (u 5) (u 6) (u 7) (u 8))))))), ((u 5), .inr (0, [.ref (u 9), .ref (u 13), .long (tb 0), .int (tc 0)])), ((u 9), .inl (cJ, 16, .inr (.inl (tx 0)))), ((u 13), .inl (cJ, 16, .inr (.inl (ty 0)))), ((u 6), .inr (0, [.ref (u 10), .ref (u 14), .long (tb 1), .int (tc 1)])), ((u 10), .inl (cJ, 16, .inr (.inl (tx 1)))), ((u 14), .inl (cJ, 16, .inr (.inl (ty 1)))), ((u 7), .inr (0, [.ref (u 11), .ref (u 15), .long (tb 2), .int (tc 2)])), ((u 11), .inl (cJ, 16, .inr (.inl (tx 2)))), ((u 15), .inl (cJ, 16, .inr (.inl (ty 2)))), ((u 8), .inr (0, [.ref (u 12), .ref (u 16), .long (tb 3), .int (tc 3)])), ((u 12), .inl (cJ, 16, .inr (.inl (tx 3)))), ((u 16), .inl (cJ, 16, .inr (.inl (ty 3)))), (g, .inr (2, [.int cd, .int n, .ref (v 0), .ref (v 1), .ref (v 2), .ref (v 3), .ref (v 4), .ref (v 5), .ref (v 6), .int k, .ref (v 7)])), ((v 0), .inl (cJ, 500, .inr (.inl up))), ((v 1), .inl (cJ, 500, .inr (.inl dn))), ((v 2), .inl (cI, 500, .inl mu)), ((v 3), .inl (cI, 4, .inl rw_)), ((v 4), .inl (cJ, 64, .inr (.inl mx))), ((v 5), .inl (cJ, 64, .inr (.inl my))), ((v 6), .inl (cJ, 4, .inr (.inl bl))), ((v 7), .inl (cJ, 16, .inr (.inl mw))), (ao, .inl (cJ, 1, .inr (.inl o)))] H := hP
  have hD : va_D (lA s) [(h, .inr (1, [.ref (u 0), .ref (u 1), .ref (u 2), .int n, .ref (u 3), .int k, .ref (u 4)])), ((u 0), .inl (cJ, 500, .inr (.inl ab))), ((u 1), .inl (cJ, 500, .inr (.inl be))), ((u 2), .inl (cI, 500, .inl un)), ((u 3), .inl (cJ, 16, .inr (.inl we))), ((u 4), .inl (cT, 4, .inr (.inr (.inr (.inr (tf0 (u 5) (u 6) (u 7) (u 8))))))), ((u 5), .inr (0, [.ref (u 9), .ref (u 13), .long (tb 0), .int (tc 0)])), ((u 9), .inl (cJ, 16, .inr (.inl (tx 0)))), ((u 13), .inl (cJ, 16, .inr (.inl (ty 0)))), ((u 6), .inr (0, [.ref (u 10), .ref (u 14), .long (tb 1), .int (tc 1)])), ((u 10), .inl (cJ, 16, .inr (.inl (tx 1)))), ((u 14), .inl (cJ, 16, .inr (.inl (ty 1)))), ((u 7), .inr (0, [.ref (u 11), .ref (u 15), .long (tb 2), .int (tc 2)])), ((u 11), .inl (cJ, 16, .inr (.inl (tx 2)))), ((u 15), .inl (cJ, 16, .inr (.inl (ty 2)))), ((u 8), .inr (0, [.ref (u 12), .ref (u 16), .long (tb 3), .int (tc 3)])), ((u 12), .inl (cJ, 16, .inr (.inl (tx 3)))), ((u 16), .inl (cJ, 16, .inr (.inl (ty 3)))), (g, .inr (2, [.int cd, .int n, .ref (v 0), .ref (v 1), .ref (v 2), .ref (v 3), .ref (v 4), .ref (v 5), .ref (v 6), .int k, .ref (v 7)])), ((v 0), .inl (cJ, 500, .inr (.inl up))), ((v 1), .inl (cJ, 500, .inr (.inl dn))), ((v 2), .inl (cI, 500, .inl mu)), ((v 3), .inl (cI, 4, .inl rw_)), ((v 4), .inl (cJ, 64, .inr (.inl mx))), ((v 5), .inl (cJ, 64, .inr (.inl my))), ((v 6), .inl (cJ, 4, .inr (.inl bl))), ((v 7), .inl (cJ, 16, .inr (.inl mw))), (ao, .inl (cJ, 1, .inr (.inl o)))] := hD
  have hn0 := hIA.1
  have hn := hIA.2.1
  have hk0 := hIW.1
  have hk := hIW.2.1
  have i1 : vp_in (nI I + 1) L := in_I (k := 1) hI hL (by decide)
  have i2 : vp_in (nI I + 2) L := in_I (k := 2) hI hL (by decide)
  obtain ⟨w2, v2⟩ : ∃ w : Int32, xs (nI I + 2).toNatClampNeg = w := ⟨_, rfl⟩
  have i3 : vp_in (nI I + 3) L := in_I (k := 3) hI hL (by decide)
  obtain ⟨w3, v3⟩ : ∃ w : Int32, xs (nI I + 3).toNatClampNeg = w := ⟨_, rfl⟩
  have i4 : vp_in (nI I + 4) L := in_I (k := 4) hI hL (by decide)
  obtain ⟨w4, v4⟩ : ∃ w : Int32, xs (nI I + 4).toNatClampNeg = w := ⟨_, rfl⟩
  have i5 : vp_in (nI I + 5) L := in_I (k := 5) hI hL (by decide)
  obtain ⟨w5, v5⟩ : ∃ w : Int32, xs (nI I + 5).toNatClampNeg = w := ⟨_, rfl⟩
  have i6 : vp_in (nI I + 6) L := in_I (k := 6) hI hL (by decide)
  obtain ⟨w6, v6⟩ : ∃ w : Int32, xs (nI I + 6).toNatClampNeg = w := ⟨_, rfl⟩
  have i7 : vp_in (nI I + 7) L := in_I (k := 7) hI hL (by decide)
  obtain ⟨w7, v7⟩ : ∃ w : Int32, xs (nI I + 7).toNatClampNeg = w := ⟨_, rfl⟩
  obtain ⟨x2, ex2⟩ : ∃ x : Int64, (w2.toInt64 <<< ((32 : Int32).toInt64 &&& 63)) ||| (w3.toInt64 &&& 4294967295) = x := ⟨_, rfl⟩
  obtain ⟨x4, ex4⟩ : ∃ x : Int64, (w4.toInt64 <<< ((32 : Int32).toInt64 &&& 63)) ||| (w5.toInt64 &&& 4294967295) = x := ⟨_, rfl⟩
  obtain ⟨x6, ex6⟩ : ∃ x : Int64, (w6.toInt64 <<< ((32 : Int32).toInt64 &&& 63)) ||| (w7.toInt64 &&& 4294967295) = x := ⟨_, rfl⟩
  refine lv_aload_n hx hb d_L_law_512 rfl (lv_at hl 1 rfl) ?_
  refine lv_aload_n hx hb d_L_law_513 rfl (lv_at hl 0 rfl) ?_
  refine lv_iload hx hb d_L_law_514 (lv_at hl 4 rfl) ?_
  refine lv_iconst (v := 1) hx hb d_L_law_516 (by decide) ?_
  refine lv_iadd hx hb d_L_law_517 ?_
  refine l_sld hx hb hX hbl hbA hS i1 v1 d_L_law_518 ?_
  refine lv_aload_n hx hb d_L_law_519 rfl (lv_at hl 0 rfl) ?_
  refine lv_iload hx hb d_L_law_520 (lv_at hl 4 rfl) ?_
  refine lv_iconst (v := 2) hx hb d_L_law_522 (by decide) ?_
  refine lv_iadd hx hb d_L_law_523 ?_
  refine l_sld hx hb hX hbl hbA hS i2 v2 d_L_law_524 ?_
  refine lv_i2l hx hb d_L_law_525 rfl ?_
  refine lv_bipush (v := 32) hx hb d_L_law_526 (by decide) ?_
  refine lv_lshl hx hb d_L_law_528 rfl ?_
  refine lv_aload_n hx hb d_L_law_529 rfl (lv_at hl 0 rfl) ?_
  refine lv_iload hx hb d_L_law_530 (lv_at hl 4 rfl) ?_
  refine lv_iconst (v := 3) hx hb d_L_law_532 (by decide) ?_
  refine lv_iadd hx hb d_L_law_533 ?_
  refine l_sld hx hb hX hbl hbA hS i3 v3 d_L_law_534 ?_
  refine lv_i2l hx hb d_L_law_535 rfl ?_
  refine lv_ldc2 (v := 4294967295) hx hb hown (hg _ wg_376) d_L_law_536 ?_
  refine lv_land hx hb d_L_law_539 ?_
  refine lv_lor hx hb d_L_law_540 ?_
  refine lv_topl (fun z_1 ez_1 => ?_)
  obtain rfl : x2 = z_1 := (ez_1.trans ex2).symm
  refine lv_aload_n hx hb d_L_law_541 rfl (lv_at hl 0 rfl) ?_
  refine lv_iload hx hb d_L_law_542 (lv_at hl 4 rfl) ?_
  refine lv_iconst (v := 4) hx hb d_L_law_544 (by decide) ?_
  refine lv_iadd hx hb d_L_law_545 ?_
  refine l_sld hx hb hX hbl hbA hS i4 v4 d_L_law_546 ?_
  refine lv_i2l hx hb d_L_law_547 rfl ?_
  refine lv_bipush (v := 32) hx hb d_L_law_548 (by decide) ?_
  refine lv_lshl hx hb d_L_law_550 rfl ?_
  refine lv_aload_n hx hb d_L_law_551 rfl (lv_at hl 0 rfl) ?_
  refine lv_iload hx hb d_L_law_552 (lv_at hl 4 rfl) ?_
  refine lv_iconst (v := 5) hx hb d_L_law_554 (by decide) ?_
  refine lv_iadd hx hb d_L_law_555 ?_
  refine l_sld hx hb hX hbl hbA hS i5 v5 d_L_law_556 ?_
  refine lv_i2l hx hb d_L_law_557 rfl ?_
  refine lv_ldc2 (v := 4294967295) hx hb hown (hg _ wg_376) d_L_law_558 ?_
  refine lv_land hx hb d_L_law_561 ?_
  refine lv_lor hx hb d_L_law_562 ?_
  refine lv_topl (fun z_2 ez_2 => ?_)
  obtain rfl : x4 = z_2 := (ez_2.trans ex4).symm
  refine lv_aload_n hx hb d_L_law_563 rfl (lv_at hl 0 rfl) ?_
  refine lv_iload hx hb d_L_law_564 (lv_at hl 4 rfl) ?_
  refine lv_bipush (v := 6) hx hb d_L_law_566 (by decide) ?_
  refine lv_iadd hx hb d_L_law_568 ?_
  refine l_sld hx hb hX hbl hbA hS i6 v6 d_L_law_569 ?_
  refine lv_i2l hx hb d_L_law_570 rfl ?_
  refine lv_bipush (v := 32) hx hb d_L_law_571 (by decide) ?_
  refine lv_lshl hx hb d_L_law_573 rfl ?_
  refine lv_aload_n hx hb d_L_law_574 rfl (lv_at hl 0 rfl) ?_
  refine lv_iload hx hb d_L_law_575 (lv_at hl 4 rfl) ?_
  refine lv_bipush (v := 7) hx hb d_L_law_577 (by decide) ?_
  refine lv_iadd hx hb d_L_law_579 ?_
  refine l_sld hx hb hX hbl hbA hS i7 v7 d_L_law_580 ?_
  refine lv_i2l hx hb d_L_law_581 rfl ?_
  refine lv_ldc2 (v := 4294967295) hx hb hown (hg _ wg_376) d_L_law_582 ?_
  refine lv_land hx hb d_L_law_585 ?_
  refine lv_lor hx hb d_L_law_586 ?_
  refine lv_topl (fun z_3 ez_3 => ?_)
  obtain rfl : x6 = z_3 := (ez_3.trans ex6).symm
  have hPc := hP.sub (ws' := [(h, .inr (1, [.ref (u 0), .ref (u 1), .ref (u 2), .int n, .ref (u 3), .int k, .ref (u 4)])), ((u 4), .inl (cT, 4, .inr (.inr (.inr (.inr (tf0 (u 5) (u 6) (u 7) (u 8)))))))]) [0, 5] rfl
  refine W.callV (W.runV (As := [.int w1, .long x2, .long x4, .long x6]) (rest := []) ⟨hx, hb, hml, hown, hg⟩ (k_X_row_out l dC dI cJ cI cT h (u 0) (u 1) (u 2) (u 3) (u 4) n k (tf0 (u 5) (u 6) (u 7) (u 8)) w1 x2 x4 x6 (tab_out hO)) (q_V 4 hg wg_119 wg_116 wg_117 wg_118 wg_13 rfl rfl (by decide +kernel) ⟨(Nat.le_of_ble_eq_true rfl), (Nat.le_of_ble_eq_true rfl)⟩) ⟨wd_blind, va_recv hK hPc (ci := 1) (q0 := 0) rfl rfl, wd_pre (as := .ref h :: [.int w1, .long x2, .long x4, .long x6]) hPc hK⟩ rfl rfl hl.1 rfl (lv_room (Nat.le_of_ble_eq_true rfl)) d_L_law_587 ⟨Nat.le_trans (by omega) hc, Nat.le_trans (by omega) hs⟩) ?_
  refine W.eq (g2 := F0 m 590 ls (.int (0 : Int32) :: [])) rfl ?_
  refine lv_aload_n hx hb d_L_law_590 rfl (lv_at hl 2 rfl) ?_
  refine lv_aload_n hx hb d_L_law_591 rfl (lv_at hl 0 rfl) ?_
  refine lv_iload hx hb d_L_law_592 (lv_at hl 4 rfl) ?_
  refine lv_iconst (v := 1) hx hb d_L_law_594 (by decide) ?_
  refine lv_iadd hx hb d_L_law_595 ?_
  refine l_sld hx hb hX hbl hbA hS i1 v1 d_L_law_596 ?_
  refine lv_aload_n hx hb d_L_law_597 rfl (lv_at hl 0 rfl) ?_
  refine lv_iload hx hb d_L_law_598 (lv_at hl 4 rfl) ?_
  refine lv_iconst (v := 2) hx hb d_L_law_600 (by decide) ?_
  refine lv_iadd hx hb d_L_law_601 ?_
  refine l_sld hx hb hX hbl hbA hS i2 v2 d_L_law_602 ?_
  refine lv_i2l hx hb d_L_law_603 rfl ?_
  refine lv_bipush (v := 32) hx hb d_L_law_604 (by decide) ?_
  refine lv_lshl hx hb d_L_law_606 rfl ?_
  refine lv_aload_n hx hb d_L_law_607 rfl (lv_at hl 0 rfl) ?_
  refine lv_iload hx hb d_L_law_608 (lv_at hl 4 rfl) ?_
  refine lv_iconst (v := 3) hx hb d_L_law_610 (by decide) ?_
  refine lv_iadd hx hb d_L_law_611 ?_
  refine l_sld hx hb hX hbl hbA hS i3 v3 d_L_law_612 ?_
  refine lv_i2l hx hb d_L_law_613 rfl ?_
  refine lv_ldc2 (v := 4294967295) hx hb hown (hg _ wg_376) d_L_law_614 ?_
  refine lv_land hx hb d_L_law_617 ?_
  refine lv_lor hx hb d_L_law_618 ?_
  refine lv_topl (fun z_4 ez_4 => ?_)
  obtain rfl : x2 = z_4 := (ez_4.trans ex2).symm
  refine lv_aload_n hx hb d_L_law_619 rfl (lv_at hl 0 rfl) ?_
  refine lv_iload hx hb d_L_law_620 (lv_at hl 4 rfl) ?_
  refine lv_iconst (v := 4) hx hb d_L_law_622 (by decide) ?_
  refine lv_iadd hx hb d_L_law_623 ?_
  refine l_sld hx hb hX hbl hbA hS i4 v4 d_L_law_624 ?_
  refine lv_i2l hx hb d_L_law_625 rfl ?_
  refine lv_bipush (v := 32) hx hb d_L_law_626 (by decide) ?_
  refine lv_lshl hx hb d_L_law_628 rfl ?_
  refine lv_aload_n hx hb d_L_law_629 rfl (lv_at hl 0 rfl) ?_
  refine lv_iload hx hb d_L_law_630 (lv_at hl 4 rfl) ?_
  refine lv_iconst (v := 5) hx hb d_L_law_632 (by decide) ?_
  refine lv_iadd hx hb d_L_law_633 ?_
  refine l_sld hx hb hX hbl hbA hS i5 v5 d_L_law_634 ?_
  refine lv_i2l hx hb d_L_law_635 rfl ?_
  refine lv_ldc2 (v := 4294967295) hx hb hown (hg _ wg_376) d_L_law_636 ?_
  refine lv_land hx hb d_L_law_639 ?_
  refine lv_lor hx hb d_L_law_640 ?_
  refine lv_topl (fun z_5 ez_5 => ?_)
  obtain rfl : x4 = z_5 := (ez_5.trans ex4).symm
  refine lv_aload_n hx hb d_L_law_641 rfl (lv_at hl 0 rfl) ?_
  refine lv_iload hx hb d_L_law_642 (lv_at hl 4 rfl) ?_
  refine lv_bipush (v := 6) hx hb d_L_law_644 (by decide) ?_
  refine lv_iadd hx hb d_L_law_646 ?_
  refine l_sld hx hb hX hbl hbA hS i6 v6 d_L_law_647 ?_
  refine lv_i2l hx hb d_L_law_648 rfl ?_
  refine lv_bipush (v := 32) hx hb d_L_law_649 (by decide) ?_
  refine lv_lshl hx hb d_L_law_651 rfl ?_
  refine lv_aload_n hx hb d_L_law_652 rfl (lv_at hl 0 rfl) ?_
  refine lv_iload hx hb d_L_law_653 (lv_at hl 4 rfl) ?_
  refine lv_bipush (v := 7) hx hb d_L_law_655 (by decide) ?_
  refine lv_iadd hx hb d_L_law_657 ?_
  refine l_sld hx hb hX hbl hbA hS i7 v7 d_L_law_658 ?_
  refine lv_i2l hx hb d_L_law_659 rfl ?_
  refine lv_ldc2 (v := 4294967295) hx hb hown (hg _ wg_376) d_L_law_660 ?_
  refine lv_land hx hb d_L_law_663 ?_
  refine lv_lor hx hb d_L_law_664 ?_
  refine lv_topl (fun z_6 ez_6 => ?_)
  obtain rfl : x6 = z_6 := (ez_6.trans ex6).symm
  have hPc := hP.sub (ws' := [(g, .inr (2, [.int cd, .int n, .ref (v 0), .ref (v 1), .ref (v 2), .ref (v 3), .ref (v 4), .ref (v 5), .ref (v 6), .int k, .ref (v 7)])), ((v 3), .inl (cI, 4, .inl rw_)), ((v 4), .inl (cJ, 64, .inr (.inl mx))), ((v 5), .inl (cJ, 64, .inr (.inl my))), ((v 6), .inl (cJ, 4, .inr (.inl bl)))]) [18, 22, 23, 24, 25] rfl
  have hDc := hD.sub (ws' := [(g, .inr (2, [.int cd, .int n, .ref (v 0), .ref (v 1), .ref (v 2), .ref (v 3), .ref (v 4), .ref (v 5), .ref (v 6), .int k, .ref (v 7)])), ((v 3), .inl (cI, 4, .inl rw_)), ((v 4), .inl (cJ, 64, .inr (.inl mx))), ((v 5), .inl (cJ, 64, .inr (.inl my))), ((v 6), .inl (cJ, 4, .inr (.inl bl)))]) [18, 22, 23, 24, 25] (by decide) rfl
  have hFc := va_free (wc := [(g, .inr (2, [.int cd, .int n, .ref (v 0), .ref (v 1), .ref (v 2), .ref (v 3), .ref (v 4), .ref (v 5), .ref (v 6), .int k, .ref (v 7)])), ((v 3), .inl (cI, 4, .inl rw_)), ((v 4), .inl (cJ, 64, .inr (.inl mx))), ((v 5), .inl (cJ, 64, .inr (.inl my))), ((v 6), .inl (cJ, 4, .inr (.inl bl)))]) hD hS hA [18, 22, 23, 24, 25] rfl
  refine va_calli (va_runV (As := [.int w1, .long x2, .long x4, .long x6]) (rest := [.int (0 : Int32)]) ⟨hx, hb, hml, hown, hg⟩ (k_M_row l dC dI cJ cI cT g (v 0) (v 1) (v 2) (v 3) (v 4) (v 5) (v 6) (v 7) cd n k rw_ mx my bl w1 x2 x4 x6 _ (hr4_of hIT)) (q_V 4 hg wg_340 wg_337 wg_338 wg_339 wg_15 rfl rfl (by decide +kernel) ⟨(Nat.le_of_ble_eq_true rfl), (Nat.le_of_ble_eq_true rfl)⟩) ⟨wx_blind, va_recv hK hPc (ci := 2) (q0 := 0) rfl rfl, wx_pre (as := .ref g :: [.int w1, .long x2, .long x4, .long x6]) hPc hK hDc⟩ rfl rfl hl.1 rfl (lv_room (Nat.le_of_ble_eq_true rfl)) d_L_law_665 ⟨Nat.le_trans (by omega) hc, Nat.le_trans (by omega) hs⟩) hS (fun q _ h => hFc q h) hFc (fun r_8 uu t H1 locs ht hvm hw_7 hB hz1 hk1 hS => ?_)
  obtain ⟨cd2, rw2, mx2, my2, bl2⟩ := uu
  obtain ⟨hP1, hK1, hD1⟩ := hB
  rw [ht] at hP1
  obtain ⟨hP, hD⟩ := va_join (wr := [(h, .inr (1, [.ref (u 0), .ref (u 1), .ref (u 2), .int n, .ref (u 3), .int k, .ref (u 4)])), ((u 0), .inl (cJ, 500, .inr (.inl ab))), ((u 1), .inl (cJ, 500, .inr (.inl be))), ((u 2), .inl (cI, 500, .inl un)), ((u 3), .inl (cJ, 16, .inr (.inl we))), ((u 4), .inl (cT, 4, .inr (.inr (.inr (.inr (tf0 (u 5) (u 6) (u 7) (u 8))))))), ((u 5), .inr (0, [.ref (u 9), .ref (u 13), .long (tb 0), .int (tc 0)])), ((u 9), .inl (cJ, 16, .inr (.inl (tx 0)))), ((u 13), .inl (cJ, 16, .inr (.inl (ty 0)))), ((u 6), .inr (0, [.ref (u 10), .ref (u 14), .long (tb 1), .int (tc 1)])), ((u 10), .inl (cJ, 16, .inr (.inl (tx 1)))), ((u 14), .inl (cJ, 16, .inr (.inl (ty 1)))), ((u 7), .inr (0, [.ref (u 11), .ref (u 15), .long (tb 2), .int (tc 2)])), ((u 11), .inl (cJ, 16, .inr (.inl (tx 2)))), ((u 15), .inl (cJ, 16, .inr (.inl (ty 2)))), ((u 8), .inr (0, [.ref (u 12), .ref (u 16), .long (tb 3), .int (tc 3)])), ((u 12), .inl (cJ, 16, .inr (.inl (tx 3)))), ((u 16), .inl (cJ, 16, .inr (.inl (ty 3)))), ((v 0), .inl (cJ, 500, .inr (.inl up))), ((v 1), .inl (cJ, 500, .inr (.inl dn))), ((v 2), .inl (cI, 500, .inl mu)), ((v 7), .inl (cJ, 16, .inr (.inl mw))), (ao, .inl (cJ, 1, .inr (.inl o)))]) (w1 := [(g, .inr (2, [.int cd2, .int n, .ref (v 0), .ref (v 1), .ref (v 2), .ref (v 3), .ref (v 4), .ref (v 5), .ref (v 6), .int k, .ref (v 7)])), ((v 3), .inl (cI, 4, .inl rw2)), ((v 4), .inl (cJ, 64, .inr (.inl mx2))), ((v 5), .inl (cJ, 64, .inr (.inl my2))), ((v 6), .inl (cJ, 4, .inr (.inl bl2)))]) hP hD [18, 22, 23, 24, 25] [0, 1, 2, 3, 4, 5, 6, 7, 8, 9, 10, 11, 12, 13, 14, 15, 16, 17, 19, 20, 21, 26, 27] rfl rfl (by decide) (by decide) hk1 hFc hP1 hD1
  generalize H1 = H at hP hS ⊢
  have hP : va_P (dC, dI) classes [(h, .inr (1, [.ref (u 0), .ref (u 1), .ref (u 2), .int n, .ref (u 3), .int k, .ref (u 4)])), ((u 0), .inl (cJ, 500, .inr (.inl ab))), ((u 1), .inl (cJ, 500, .inr (.inl be))), ((u 2), .inl (cI, 500, .inl un)), ((u 3), .inl (cJ, 16, .inr (.inl we))), ((u 4), .inl (cT, 4, .inr (.inr (.inr (.inr (tf0 (u 5) (u 6) (u 7) (u 8))))))), ((u 5), .inr (0, [.ref (u 9), .ref (u 13), .long (tb 0), .int (tc 0)])), ((u 9), .inl (cJ, 16, .inr (.inl (tx 0)))), ((u 13), .inl (cJ, 16, .inr (.inl (ty 0)))), ((u 6), .inr (0, [.ref (u 10), .ref (u 14), .long (tb 1), .int (tc 1)])), ((u 10), .inl (cJ, 16, .inr (.inl (tx 1)))), ((u 14), .inl (cJ, 16, .inr (.inl (ty 1)))), ((u 7), .inr (0, [.ref (u 11), .ref (u 15), .long (tb 2), .int (tc 2)])), ((u 11), .inl (cJ, 16, .inr (.inl (tx 2)))), ((u 15), .inl (cJ, 16, .inr (.inl (ty 2)))), ((u 8), .inr (0, [.ref (u 12), .ref (u 16), .long (tb 3), .int (tc 3)])), ((u 12), .inl (cJ, 16, .inr (.inl (tx 3)))), ((u 16), .inl (cJ, 16, .inr (.inl (ty 3)))), ((v 0), .inl (cJ, 500, .inr (.inl up))), ((v 1), .inl (cJ, 500, .inr (.inl dn))), ((v 2), .inl (cI, 500, .inl mu)), ((v 7), .inl (cJ, 16, .inr (.inl mw))), (ao, .inl (cJ, 1, .inr (.inl o))), (g, .inr (2, [.int cd2, .int n, .ref (v 0), .ref (v 1), .ref (v 2), .ref (v 3), .ref (v 4), .ref (v 5), .ref (v 6), .int k, .ref (v 7)])), ((v 3), .inl (cI, 4, .inl rw2)), ((v 4), .inl (cJ, 64, .inr (.inl mx2))), ((v 5), .inl (cJ, 64, .inr (.inl my2))), ((v 6), .inl (cJ, 4, .inr (.inl bl2)))] H := hP
  have hD : va_D (lA s) [(h, .inr (1, [.ref (u 0), .ref (u 1), .ref (u 2), .int n, .ref (u 3), .int k, .ref (u 4)])), ((u 0), .inl (cJ, 500, .inr (.inl ab))), ((u 1), .inl (cJ, 500, .inr (.inl be))), ((u 2), .inl (cI, 500, .inl un)), ((u 3), .inl (cJ, 16, .inr (.inl we))), ((u 4), .inl (cT, 4, .inr (.inr (.inr (.inr (tf0 (u 5) (u 6) (u 7) (u 8))))))), ((u 5), .inr (0, [.ref (u 9), .ref (u 13), .long (tb 0), .int (tc 0)])), ((u 9), .inl (cJ, 16, .inr (.inl (tx 0)))), ((u 13), .inl (cJ, 16, .inr (.inl (ty 0)))), ((u 6), .inr (0, [.ref (u 10), .ref (u 14), .long (tb 1), .int (tc 1)])), ((u 10), .inl (cJ, 16, .inr (.inl (tx 1)))), ((u 14), .inl (cJ, 16, .inr (.inl (ty 1)))), ((u 7), .inr (0, [.ref (u 11), .ref (u 15), .long (tb 2), .int (tc 2)])), ((u 11), .inl (cJ, 16, .inr (.inl (tx 2)))), ((u 15), .inl (cJ, 16, .inr (.inl (ty 2)))), ((u 8), .inr (0, [.ref (u 12), .ref (u 16), .long (tb 3), .int (tc 3)])), ((u 12), .inl (cJ, 16, .inr (.inl (tx 3)))), ((u 16), .inl (cJ, 16, .inr (.inl (ty 3)))), ((v 0), .inl (cJ, 500, .inr (.inl up))), ((v 1), .inl (cJ, 500, .inr (.inl dn))), ((v 2), .inl (cI, 500, .inl mu)), ((v 7), .inl (cJ, 16, .inr (.inl mw))), (ao, .inl (cJ, 1, .inr (.inl o))), (g, .inr (2, [.int cd2, .int n, .ref (v 0), .ref (v 1), .ref (v 2), .ref (v 3), .ref (v 4), .ref (v 5), .ref (v 6), .int k, .ref (v 7)])), ((v 3), .inl (cI, 4, .inl rw2)), ((v 4), .inl (cJ, 64, .inr (.inl mx2))), ((v 5), .inl (cJ, 64, .inr (.inl my2))), ((v 6), .inl (cJ, 4, .inr (.inl bl2)))] := hD
  obtain ⟨er, hIT⟩ := RO_use hO hIT hw_7
  refine lv_icmp_eq (tgt := 933) hx hb d_L_law_668 (by decide) (fun c_9 => ?_) (fun c_9 => ?_)
  · skip
    refine W.widen (k := cells + 1) (n := slots + 6) (by omega) (by omega) ?_
    exact kk _ _ _ ⟨u, v, n, k, cd2, ab, be, un, we, tx, ty, tb, tc, up, dn, mu, rw2, mx2, my2, bl2, mw, o, hP.sub (ws' := LW cJ cI cT h g ao u v n k cd2 ab be un we tx ty tb tc up dn mu rw2 mx2 my2 bl2 mw o) [0, 1, 2, 3, 4, 5, 6, 7, 8, 9, 10, 11, 12, 13, 14, 15, 16, 17, 23, 18, 19, 20, 24, 25, 26, 27, 21, 22] rfl, hD.sub (ws' := LW cJ cI cT h g ao u v n k cd2 ab be un we tx ty tb tc up dn mu rw2 mx2 my2 bl2 mw o) [0, 1, 2, 3, 4, 5, 6, 7, 8, 9, 10, 11, 12, 13, 14, 15, 16, 17, 23, 18, 19, 20, 24, 25, 26, 27, 21, 22] (by decide) rfl, hS, hIA, hIW, hIT⟩ (lv_sub hl [0, 1, 2, 3, 4] rfl)
  · skip
    exact absurd er.symm c_9
end LAWC
