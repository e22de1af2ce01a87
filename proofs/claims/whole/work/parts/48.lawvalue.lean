section LAWC
variable {p : Program} {l : Launch} {e : Env} {s : State} {m : MethodId} {below : List Frame} {meth : Method} {c : Code} {b L : Nat} {xs : Nat → Int32} {dC : Nat → ClassId} {dI : Nat → Nat → Nat} {cJ cI cT : ClassId} {h g ao : Nat} {H : Heap} {locs : List Loc} {cells slots : Nat} {ls : Array Slot} {I : Nat}
set_option maxHeartbeats 4000000 in
set_option maxRecDepth 100000 in
theorem lc_value (C0 : lw_At p s m meth c b L xs) (E0 : LE0 l s dC dI cJ cI cT) (hI : I + 8 ≤ L) (hL : L ≤ 4096) (hi : LI s dC dI cJ cI cT h g ao H locs) (hc : cells + 1 ≤ room_1.cells) (hs : slots + 6 ≤ room_1.slots) (hl : lv_has ls 7 [(0, .ref b), (1, .ref h), (2, .ref g), (3, .ref ao), (4, .int (nI I))]) (kk : LK p l e s m below meth c b dC dI cJ cI cT h g ao I cells slots) : W p l e room_1 s m #[Value.ref b] below meth c H locs cells slots (lw_Z below #[Value.ref b] s) (F0 m 108 ls []) := by
  obtain ⟨hx, hb, hr, hml, hown, hts, hX, hbl, hlocks, hgv⟩ := C0
  obtain ⟨hlt, hK, hN, sa1, sa2, sa3, hT1, hT2, hT3⟩ := E0
  obtain ⟨u, v, n, k, cd, ab, be, un, we, tx, ty, tb, tc, up, dn, mu, rw_, mx, my, bl, mw, o, hP, hD, hS, hIA, hIW, hIT⟩ := hi
  have hown : s.vm.findClass R_L = some m.cls := hown
  have hg : ∀ w ∈ WG, w.before #[Value.ref b] s = true := fun w h => hts w (WG_ok w h).1
  have hA : ∀ q : Nat, s.heap.size ≤ q → lA s q := fun _ h => h
  have hbA : ¬ lA s b := Nat.not_le.mpr hbl
  have hP : va_P (dC, dI) classes [(h, .inr (1, [.ref (u 0), .ref (u 1), .ref (u 2), .int n, .ref (u 3), .int k, .ref (u 4)])), ((u 0), .inl (cJ, 500, .inr (.inl ab))), ((u 1), .inl (cJ, 500, .inr (.inl be))), ((u 2), .inl (cI, 500, .inl un)), ((u 3), .inl (cJ, 16, .inr (.inl we))), ((u 4), .inl (cT, 4, .inr (.inr (.inr (.inr (tf0 (u 5) (u 6) (u 7) (u 8))))))), ((u 5), .inr (0, [.ref (u 9), .ref (u 13), .long (tb 0), .int (tc 0)])), ((u 9), .inl (cJ, 16, .inr (.inl (tx 0)))), ((u 13), .inl (cJ, 16, .inr (.inl (ty 0)))), ((u 6), .inr (0, [.ref (u 10), .ref (u 14), .long (tb 1), .int (tc 1)])), ((u 10), .inl (cJ, 16, .inr (.inl (tx 1)))), ((u 14), .inl (cJ, 16, .inr (.inl (ty 1)))), ((u 7), .inr (0, [.ref (u 11), .ref (u 15), .long (tb 2), .int (tc 2)])), ((u 11), .inl (cJ, 16, .inr (.inl (tx 2)))), ((u 15), .inl (cJ, 16, .inr (.inl (ty 2)))), ((u 8), .inr (0, [.ref (u 12), .ref (u 16), .long (tb 3), .int (tc 3)])), ((u 12), .inl (cJ, 16, .inr (.inl (tx 3)))), ((u 16), .inl (cJ, 16, .inr (.inl (ty 3)))), (g, .inr (2, [.int cd, .int n, .ref (v 0), .ref (v 1), .ref (v 2), .ref (v 3), .ref (v 4), .ref (v 5), .ref (v 6), .int k, .ref (v 7)])), ((v 0), .inl (cJ, 500, .inr (.inl up))), ((v 1), .inl (cJ, 500, .inr (.inl dn))), ((v 2), .inl (cI, 500, .inl mu)), ((v 3), .inl (cI, 4, .inl rw_)), ((v 4), .inl (cJ, 64, .inr (.inl mx))), ((v 5), .inl (cJ, 64, .inr (.inl my))), ((v 6), .inl (cJ, 4, .inr (.inl bl))), ((v 7), .inl (cJ, 16, .inr (.inl mw))), (ao, .inl (cJ, 1, .inr (.inl o)))] H := hP
  have hD : va_D (lA s) [(h, .inr (1, [.ref (u 0), .ref (u 1), .ref (u 2), .int n, .ref (u 3), .int k, .ref (u 4)])), ((u 0), .inl (cJ, 500, .inr (.inl ab))), ((u 1), .inl (cJ, 500, .inr (.inl be))), ((u 2), .inl (cI, 500, .inl un)), ((u 3), .inl (cJ, 16, .inr (.inl we))), ((u 4), .inl (cT, 4, .inr (.inr (.inr (.inr (tf0 (u 5) (u 6) (u 7) (u 8))))))), ((u 5), .inr (0, [.ref (u 9), .ref (u 13), .long (tb 0), .int (tc 0)])), ((u 9), .inl (cJ, 16, .inr (.inl (tx 0)))), ((u 13), .inl (cJ, 16, .inr (.inl (ty 0)))), ((u 6), .inr (0, [.ref (u 10), .ref (u 14), .long (tb 1), .int (tc 1)])), ((u 10), .inl (cJ, 16, .inr (.inl (tx 1)))), ((u 14), .inl (cJ, 16, .inr (.inl (ty 1)))), ((u 7), .inr (0, [.ref (u 11), .ref (u 15), .long (tb 2), .int (tc 2)])), ((u 11), .inl (cJ, 16, .inr (.inl (tx 2)))), ((u 15), .inl (cJ, 16, .inr (.inl (ty 2)))), ((u 8), .inr (0, [.ref (u 12), .ref (u 16), .long (tb 3), .int (tc 3)])), ((u 12), .inl (cJ, 16, .inr (.inl (tx 3)))), ((u 16), .inl (cJ, 16, .inr (.inl (ty 3)))), (g, .inr (2, [.int cd, .int n, .ref (v 0), .ref (v 1), .ref (v 2), .ref (v 3), .ref (v 4), .ref (v 5), .ref (v 6), .int k, .ref (v 7)])), ((v 0), .inl (cJ, 500, .inr (.inl up))), ((v 1), .inl (cJ, 500, .inr (.inl dn))), ((v 2), .inl (cI, 500, .inl mu)), ((v 3), .inl (cI, 4, .inl rw_)), ((v 4), .inl (cJ, 64, .inr (.inl mx))), ((v 5), .inl (cJ, 64, .inr (.inl my))), ((v 6), .inl (cJ, 4, .inr (.inl bl))), ((v 7), .inl (cJ, 16, .inr (.inl mw))), (ao, .inl (cJ, 1, .inr (.inl o)))] := hD
  have hn0 := hIA.1
  have hn := hIA.2.1
  have hk0 := hIW.1
  have hk := hIW.2.1
  have i1 : vp_in (nI I + 1) L := in_I (k := 1) hI hL (by decide)
  obtain ⟨w1, v1⟩ : ∃ w : Int32, xs (nI I + 1).toNatClampNeg = w := ⟨_, rfl⟩
  have i2 : vp_in (nI I + 2) L := in_I (k := 2) hI hL (by decide)
  obtain ⟨w2, v2⟩ : ∃ w : Int32, xs (nI I + 2).toNatClampNeg = w := ⟨_, rfl⟩
  have i3 : vp_in (nI I + 3) L := in_I (k := 3) hI hL (by decide)
  obtain ⟨w3, v3⟩ : ∃ w : Int32, xs (nI I + 3).toNatClampNeg = w := ⟨_, rfl⟩
  have i4 : vp_in (nI I + 4) L := in_I (k := 4) hI hL (by decide)
  obtain ⟨w4, v4⟩ : ∃ w : Int32, xs (nI I + 4).toNatClampNeg = w := ⟨_, rfl⟩
  have i5 : vp_in (nI I + 5) L := in_I (k := 5) hI hL (by decide)
  obtain ⟨w5, v5⟩ : ∃ w : Int32, xs (nI I + 5).toNatClampNeg = w := ⟨_, rfl⟩
  obtain ⟨x1, ex1⟩ : ∃ x : Int64, (w1.toInt64 <<< ((32 : Int32).toInt64 &&& 63)) ||| (w2.toInt64 &&& 4294967295) = x := ⟨_, rfl⟩
  obtain ⟨x3, ex3⟩ : ∃ x : Int64, (w3.toInt64 <<< ((32 : Int32).toInt64 &&& 63)) ||| (w4.toInt64 &&& 4294967295) = x := ⟨_, rfl⟩
  refine lv_aload_n hx hb d_L_law_108 rfl (lv_at hl 1 rfl) ?_
  refine lv_aload_n hx hb d_L_law_109 rfl (lv_at hl 0 rfl) ?_
  refine lv_iload hx hb d_L_law_110 (lv_at hl 4 rfl) ?_
  refine lv_iconst (v := 1) hx hb d_L_law_112 (by decide) ?_
  refine lv_iadd hx hb d_L_law_113 ?_
  refine l_sld hx hb hX hbl hbA hS i1 v1 d_L_law_114 ?_
  refine lv_i2l hx hb d_L_law_115 rfl ?_
  refine lv_bipush (v := 32) hx hb d_L_law_116 (by decide) ?_
  refine lv_lshl hx hb d_L_law_118 rfl ?_
  refine lv_aload_n hx hb d_L_law_119 rfl (lv_at hl 0 rfl) ?_
  refine lv_iload hx hb d_L_law_120 (lv_at hl 4 rfl) ?_
  refine lv_iconst (v := 2) hx hb d_L_law_122 (by decide) ?_
  refine lv_iadd hx hb d_L_law_123 ?_
  refine l_sld hx hb hX hbl hbA hS i2 v2 d_L_law_124 ?_
  refine lv_i2l hx hb d_L_law_125 rfl ?_
  refine lv_ldc2 (v := 4294967295) hx hb hown (hg _ wg_376) d_L_law_126 ?_
  refine lv_land hx hb d_L_law_129 ?_
  refine lv_lor hx hb d_L_law_130 ?_
  refine lv_topl (fun z_1 ez_1 => ?_)
  obtain rfl : x1 = z_1 := (ez_1.trans ex1).symm
  refine lv_aload_n hx hb d_L_law_131 rfl (lv_at hl 0 rfl) ?_
  refine lv_iload hx hb d_L_law_132 (lv_at hl 4 rfl) ?_
  refine lv_iconst (v := 3) hx hb d_L_law_134 (by decide) ?_
  refine lv_iadd hx hb d_L_law_135 ?_
  refine l_sld hx hb hX hbl hbA hS i3 v3 d_L_law_136 ?_
  refine lv_i2l hx hb d_L_law_137 rfl ?_
  refine lv_bipush (v := 32) hx hb d_L_law_138 (by decide) ?_
  refine lv_lshl hx hb d_L_law_140 rfl ?_
  refine lv_aload_n hx hb d_L_law_141 rfl (lv_at hl 0 rfl) ?_
  refine lv_iload hx hb d_L_law_142 (lv_at hl 4 rfl) ?_
  refine lv_iconst (v := 4) hx hb d_L_law_144 (by decide) ?_
  refine lv_iadd hx hb d_L_law_145 ?_
  refine l_sld hx hb hX hbl hbA hS i4 v4 d_L_law_146 ?_
  refine lv_i2l hx hb d_L_law_147 rfl ?_
  refine lv_ldc2 (v := 4294967295) hx hb hown (hg _ wg_376) d_L_law_148 ?_
  refine lv_land hx hb d_L_law_151 ?_
  refine lv_lor hx hb d_L_law_152 ?_
  refine lv_topl (fun z_2 ez_2 => ?_)
  obtain rfl : x3 = z_2 := (ez_2.trans ex3).symm
  refine lv_aload_n hx hb d_L_law_153 rfl (lv_at hl 0 rfl) ?_
  refine lv_iload hx hb d_L_law_154 (lv_at hl 4 rfl) ?_
  refine lv_iconst (v := 5) hx hb d_L_law_156 (by decide) ?_
  refine lv_iadd hx hb d_L_law_157 ?_
  refine l_sld hx hb hX hbl hbA hS i5 v5 d_L_law_158 ?_
  refine lv_aload_n hx hb d_L_law_159 rfl (lv_at hl 3 rfl) ?_
  have hPc := hP.sub (ws' := [(h, .inr (1, [.ref (u 0), .ref (u 1), .ref (u 2), .int n, .ref (u 3), .int k, .ref (u 4)])), ((u 0), .inl (cJ, 500, .inr (.inl ab))), ((u 1), .inl (cJ, 500, .inr (.inl be))), ((u 2), .inl (cI, 500, .inl un)), (ao, .inl (cJ, 1, .inr (.inl o)))]) [0, 1, 2, 3, 27] rfl
  have hDc := hD.sub (ws' := [(h, .inr (1, [.ref (u 0), .ref (u 1), .ref (u 2), .int n, .ref (u 3), .int k, .ref (u 4)])), ((u 0), .inl (cJ, 500, .inr (.inl ab))), ((u 1), .inl (cJ, 500, .inr (.inl be))), ((u 2), .inl (cI, 500, .inl un)), (ao, .inl (cJ, 1, .inr (.inl o)))]) [0, 1, 2, 3, 27] (by decide) rfl
  have hFc := va_free (wc := [(h, .inr (1, [.ref (u 0), .ref (u 1), .ref (u 2), .int n, .ref (u 3), .int k, .ref (u 4)])), ((u 0), .inl (cJ, 500, .inr (.inl ab))), ((u 1), .inl (cJ, 500, .inr (.inl be))), ((u 2), .inl (cI, 500, .inl un)), (ao, .inl (cJ, 1, .inr (.inl o)))]) hD hS hA [0, 1, 2, 3, 27] rfl
  refine va_calli (vx_runSW (hh := [(0, 13, 16, 13)]) (As := [.ref h, .long x1, .long x3, .int w5, .ref ao]) (rest := []) ⟨hx, hb, hml, hown, hg⟩ (k_L_value l hlt dC dI cJ cI cT h (u 0) (u 1) (u 2) (u 3) (u 4) n k ab be un x1 x3 w5 ao o sa1 _ hn0) (vx_cwSW 5 hg (q_SW wgc_L_value wg_167 wg_168 wg_12) rfl rfl rfl (by decide +kernel) ⟨(Nat.le_of_ble_eq_true rfl), (Nat.le_of_ble_eq_true rfl)⟩) ⟨and_blind wx_blind thr_blind, and_pre (wx_pre (as := [.ref h, .long x1, .long x3, .int w5, .ref ao]) hPc hK hDc) (thr_pre hT1 hS hFc)⟩ rfl rfl hl.1 rfl (lv_room (Nat.le_of_ble_eq_true rfl)) d_L_law_160 ⟨Nat.le_trans (by omega) hc, Nat.le_trans (by omega) hs⟩) hS (fun q _ h => hFc q h) hFc (fun r_4 uu t H1 locs ht hvm hw_3 hB hz1 hk1 hS => ?_)
  obtain ⟨o2, ab2, be2, un2, n2⟩ := uu
  obtain ⟨hP1, hK1, hD1⟩ := hB
  rw [ht] at hP1
  obtain ⟨hP, hD⟩ := va_join (wr := [((u 3), .inl (cJ, 16, .inr (.inl we))), ((u 4), .inl (cT, 4, .inr (.inr (.inr (.inr (tf0 (u 5) (u 6) (u 7) (u 8))))))), ((u 5), .inr (0, [.ref (u 9), .ref (u 13), .long (tb 0), .int (tc 0)])), ((u 9), .inl (cJ, 16, .inr (.inl (tx 0)))), ((u 13), .inl (cJ, 16, .inr (.inl (ty 0)))), ((u 6), .inr (0, [.ref (u 10), .ref (u 14), .long (tb 1), .int (tc 1)])), ((u 10), .inl (cJ, 16, .inr (.inl (tx 1)))), ((u 14), .inl (cJ, 16, .inr (.inl (ty 1)))), ((u 7), .inr (0, [.ref (u 11), .ref (u 15), .long (tb 2), .int (tc 2)])), ((u 11), .inl (cJ, 16, .inr (.inl (tx 2)))), ((u 15), .inl (cJ, 16, .inr (.inl (ty 2)))), ((u 8), .inr (0, [.ref (u 12), .ref (u 16), .long (tb 3), .int (tc 3)])), ((u 12), .inl (cJ, 16, .inr (.inl (tx 3)))), ((u 16), .inl (cJ, 16, .inr (.inl (ty 3)))), (g, .inr (2, [.int cd, .int n, .ref (v 0), .ref (v 1), .ref (v 2), .ref (v 3), .ref (v 4), .ref (v 5), .ref (v 6), .int k, .ref (v 7)])), ((v 0), .inl (cJ, 500, .inr (.inl up))), ((v 1), .inl (cJ, 500, .inr (.inl dn))), ((v 2), .inl (cI, 500, .inl mu)), ((v 3), .inl (cI, 4, .inl rw_)), ((v 4), .inl (cJ, 64, .inr (.inl mx))), ((v 5), .inl (cJ, 64, .inr (.inl my))), ((v 6), .inl (cJ, 4, .inr (.inl bl))), ((v 7), .inl (cJ, 16, .inr (.inl mw)))]) (w1 := [(h, .inr (1, [.ref (u 0), .ref (u 1), .ref (u 2), .int n2, .ref (u 3), .int k, .ref (u 4)])), ((u 0), .inl (cJ, 500, .inr (.inl ab2))), ((u 1), .inl (cJ, 500, .inr (.inl be2))), ((u 2), .inl (cI, 500, .inl un2)), (ao, .inl (cJ, 1, .inr (.inl o2)))]) hP hD [0, 1, 2, 3, 27] [4, 5, 6, 7, 8, 9, 10, 11, 12, 13, 14, 15, 16, 17, 18, 19, 20, 21, 22, 23, 24, 25, 26] rfl rfl (by decide) (by decide) hk1 hFc hP1 hD1
  generalize H1 = H at hP hS ⊢
  have hP : va_P (dC, dI) classes [((u 3), .inl (cJ, 16, .inr (.inl we))), ((u 4), .inl (cT, 4, .inr (.inr (.inr (.inr (tf0 (u 5) (u 6) (u 7) (u 8))))))), ((u 5), .inr (0, [.ref (u 9), .ref (u 13), .long (tb 0), .int (tc 0)])), ((u 9), .inl (cJ, 16, .inr (.inl (tx 0)))), ((u 13), .inl (cJ, 16, .inr (.inl (ty 0)))), ((u 6), .inr (0, [.ref (u 10), .ref (u 14), .long (tb 1), .int (tc 1)])), ((u 10), .inl (cJ, 16, .inr (.inl (tx 1)))), ((u 14), .inl (cJ, 16, .inr (.inl (ty 1)))), ((u 7), .inr (0, [.ref (u 11), .ref (u 15), .long (tb 2), .int (tc 2)])), ((u 11), .inl (cJ, 16, .inr (.inl (tx 2)))), ((u 15), .inl (cJ, 16, .inr (.inl (ty 2)))), ((u 8), .inr (0, [.ref (u 12), .ref (u 16), .long (tb 3), .int (tc 3)])), ((u 12), .inl (cJ, 16, .inr (.inl (tx 3)))), ((u 16), .inl (cJ, 16, .inr (.inl (ty 3)))), (g, .inr (2, [.int cd, .int n, .ref (v 0), .ref (v 1), .ref (v 2), .ref (v 3), .ref (v 4), .ref (v 5), .ref (v 6), .int k, .ref (v 7)])), ((v 0), .inl (cJ, 500, .inr (.inl up))), ((v 1), .inl (cJ, 500, .inr (.inl dn))), ((v 2), .inl (cI, 500, .inl mu)), ((v 3), .inl (cI, 4, .inl rw_)), ((v 4), .inl (cJ, 64, .inr (.inl mx))), ((v 5), .inl (cJ, 64, .inr (.inl my))), ((v 6), .inl (cJ, 4, .inr (.inl bl))), ((v 7), .inl (cJ, 16, .inr (.inl mw))), (h, .inr (1, [.ref (u 0), .ref (u 1), .ref (u 2), .int n2, .ref (u 3), .int k, .ref (u 4)])), ((u 0), .inl (cJ, 500, .inr (.inl ab2))), ((u 1), .inl (cJ, 500, .inr (.inl be2))), ((u 2), .inl (cI, 500, .inl un2)), (ao, .inl (cJ, 1, .inr (.inl o2)))] H := hP
  have hD : va_D (lA s) [((u 3), .inl (cJ, 16, .inr (.inl we))), ((u 4), .inl (cT, 4, .inr (.inr (.inr (.inr (tf0 (u 5) (u 6) (u 7) (u 8))))))), ((u 5), .inr (0, [.ref (u 9), .ref (u 13), .long (tb 0), .int (tc 0)])), ((u 9), .inl (cJ, 16, .inr (.inl (tx 0)))), ((u 13), .inl (cJ, 16, .inr (.inl (ty 0)))), ((u 6), .inr (0, [.ref (u 10), .ref (u 14), .long (tb 1), .int (tc 1)])), ((u 10), .inl (cJ, 16, .inr (.inl (tx 1)))), ((u 14), .inl (cJ, 16, .inr (.inl (ty 1)))), ((u 7), .inr (0, [.ref (u 11), .ref (u 15), .long (tb 2), .int (tc 2)])), ((u 11), .inl (cJ, 16, .inr (.inl (tx 2)))), ((u 15), .inl (cJ, 16, .inr (.inl (ty 2)))), ((u 8), .inr (0, [.ref (u 12), .ref (u 16), .long (tb 3), .int (tc 3)])), ((u 12), .inl (cJ, 16, .inr (.inl (tx 3)))), ((u 16), .inl (cJ, 16, .inr (.inl (ty 3)))), (g, .inr (2, [.int cd, .int n, .ref (v 0), .ref (v 1), .ref (v 2), .ref (v 3), .ref (v 4), .ref (v 5), .ref (v 6), .int k, .ref (v 7)])), ((v 0), .inl (cJ, 500, .inr (.inl up))), ((v 1), .inl (cJ, 500, .inr (.inl dn))), ((v 2), .inl (cI, 500, .inl mu)), ((v 3), .inl (cI, 4, .inl rw_)), ((v 4), .inl (cJ, 64, .inr (.inl mx))), ((v 5), .inl (cJ, 64, .inr (.inl my))), ((v 6), .inl (cJ, 4, .inr (.inl bl))), ((v 7), .inl (cJ, 16, .inr (.inl mw))), (h, .inr (1, [.ref (u 0), .ref (u 1), .ref (u 2), .int n2, .ref (u 3), .int k, .ref (u 4)])), ((u 0), .inl (cJ, 500, .inr (.inl ab2))), ((u 1), .inl (cJ, 500, .inr (.inl be2))), ((u 2), .inl (cI, 500, .inl un2)), (ao, .inl (cJ, 1, .inr (.inl o2)))] := hD
  refine lv_istore (lv' := [(5, .int r_4), (0, .ref b), (1, .ref h), (2, .ref g), (3, .ref ao), (4, .int (nI I))]) hx hb d_L_law_163 hl (by decide) rfl (fun ls hl => ?_)
  refine lv_aload_n hx hb d_L_law_165 rfl (lv_at hl 3 rfl) ?_
  refine lv_aload_n hx hb d_L_law_166 rfl (lv_at hl 1 rfl) ?_
  refine lv_iload hx hb d_L_law_167 (lv_at hl 5 rfl) ?_
  refine lv_iconst (v := 1) hx hb d_L_law_169 (by decide) ?_
  refine lv_iadd hx hb d_L_law_170 ?_
  refine l_sld hx hb hX hbl hbA hS i1 v1 d_L_law_171 ?_
  refine lv_i2l hx hb d_L_law_172 rfl ?_
  refine lv_bipush (v := 32) hx hb d_L_law_173 (by decide) ?_
  refine lv_lshl hx hb d_L_law_175 rfl ?_
  refine lv_aload_n hx hb d_L_law_176 rfl (lv_at hl 1 rfl) ?_
  refine lv_iload hx hb d_L_law_177 (lv_at hl 5 rfl) ?_
  refine lv_iconst (v := 2) hx hb d_L_law_179 (by decide) ?_
  refine lv_iadd hx hb d_L_law_180 ?_
  refine l_sld hx hb hX hbl hbA hS i2 v2 d_L_law_181 ?_
  refine lv_i2l hx hb d_L_law_182 rfl ?_
  refine lv_ldc2 (v := 4294967295) hx hb hown (hg _ wg_376) d_L_law_183 ?_
  refine lv_land hx hb d_L_law_186 ?_
  refine lv_lor hx hb d_L_law_187 ?_
  refine lv_topl (fun z_5 ez_5 => ?_)
  obtain rfl : x1 = z_5 := (ez_5.trans ex1).symm
  refine lv_aload_n hx hb d_L_law_188 rfl (lv_at hl 1 rfl) ?_
  refine lv_iload hx hb d_L_law_189 (lv_at hl 5 rfl) ?_
  refine lv_iconst (v := 3) hx hb d_L_law_191 (by decide) ?_
  refine lv_iadd hx hb d_L_law_192 ?_
  refine l_sld hx hb hX hbl hbA hS i3 v3 d_L_law_193 ?_
  refine lv_i2l hx hb d_L_law_194 rfl ?_
  refine lv_bipush (v := 32) hx hb d_L_law_195 (by decide) ?_
  refine lv_lshl hx hb d_L_law_197 rfl ?_
  refine lv_aload_n hx hb d_L_law_198 rfl (lv_at hl 1 rfl) ?_
  refine lv_iload hx hb d_L_law_199 (lv_at hl 5 rfl) ?_
  refine lv_iconst (v := 4) hx hb d_L_law_201 (by decide) ?_
  refine lv_iadd hx hb d_L_law_202 ?_
  refine l_sld hx hb hX hbl hbA hS i4 v4 d_L_law_203 ?_
  refine lv_i2l hx hb d_L_law_204 rfl ?_
  refine lv_ldc2 (v := 4294967295) hx hb hown (hg _ wg_376) d_L_law_205 ?_
  refine lv_land hx hb d_L_law_208 ?_
  refine lv_lor hx hb d_L_law_209 ?_
  refine lv_topl (fun z_6 ez_6 => ?_)
  obtain rfl : x3 = z_6 := (ez_6.trans ex3).symm
  refine lv_aload_n hx hb d_L_law_210 rfl (lv_at hl 1 rfl) ?_
  refine lv_iload hx hb d_L_law_211 (lv_at hl 5 rfl) ?_
  refine lv_iconst (v := 5) hx hb d_L_law_213 (by decide) ?_
  refine lv_iadd hx hb d_L_law_214 ?_
  refine l_sld hx hb hX hbl hbA hS i5 v5 d_L_law_215 ?_
  have hPc := hP.sub (ws' := [(g, .inr (2, [.int cd, .int n, .ref (v 0), .ref (v 1), .ref (v 2), .ref (v 3), .ref (v 4), .ref (v 5), .ref (v 6), .int k, .ref (v 7)])), ((v 0), .inl (cJ, 500, .inr (.inl up))), ((v 1), .inl (cJ, 500, .inr (.inl dn))), ((v 2), .inl (cI, 500, .inl mu))]) [14, 15, 16, 17] rfl
  have hDc := hD.sub (ws' := [(g, .inr (2, [.int cd, .int n, .ref (v 0), .ref (v 1), .ref (v 2), .ref (v 3), .ref (v 4), .ref (v 5), .ref (v 6), .int k, .ref (v 7)])), ((v 0), .inl (cJ, 500, .inr (.inl up))), ((v 1), .inl (cJ, 500, .inr (.inl dn))), ((v 2), .inl (cI, 500, .inl mu))]) [14, 15, 16, 17] (by decide) rfl
  have hFc := va_free (wc := [(g, .inr (2, [.int cd, .int n, .ref (v 0), .ref (v 1), .ref (v 2), .ref (v 3), .ref (v 4), .ref (v 5), .ref (v 6), .int k, .ref (v 7)])), ((v 0), .inl (cJ, 500, .inr (.inl up))), ((v 1), .inl (cJ, 500, .inr (.inl dn))), ((v 2), .inl (cI, 500, .inl mu))]) hD hS hA [14, 15, 16, 17] rfl
  refine va_calli (va_runV (As := [.long x1, .long x3, .int w5]) (rest := []) ⟨hx, hb, hml, hown, hg⟩ (k_M_value l dC dI cJ cI cT g (v 0) (v 1) (v 2) (v 3) (v 4) (v 5) (v 6) (v 7) cd n k up dn mu x1 x3 w5 _ hn0 hn) (q_V 3 hg wg_295 wg_292 wg_293 wg_294 wg_15 rfl rfl (by decide +kernel) ⟨(Nat.le_of_ble_eq_true rfl), (Nat.le_of_ble_eq_true rfl)⟩) ⟨wx_blind, va_recv hK hPc (ci := 2) (q0 := 0) rfl rfl, wx_pre (as := .ref g :: [.long x1, .long x3, .int w5]) hPc hK hDc⟩ rfl rfl hl.1 rfl (lv_room (Nat.le_of_ble_eq_true rfl)) d_L_law_216 ⟨Nat.le_trans (by omega) hc, Nat.le_trans (by omega) hs⟩) hS (fun q _ h => hFc q h) hFc (fun r_8 uu t H1 locs ht hvm hw_7 hB hz1 hk1 hS => ?_)
  obtain ⟨cd2, up2, dn2, mu2, am2⟩ := uu
  obtain ⟨hP1, hK1, hD1⟩ := hB
  rw [ht] at hP1
  obtain ⟨hP, hD⟩ := va_join (wr := [((u 3), .inl (cJ, 16, .inr (.inl we))), ((u 4), .inl (cT, 4, .inr (.inr (.inr (.inr (tf0 (u 5) (u 6) (u 7) (u 8))))))), ((u 5), .inr (0, [.ref (u 9), .ref (u 13), .long (tb 0), .int (tc 0)])), ((u 9), .inl (cJ, 16, .inr (.inl (tx 0)))), ((u 13), .inl (cJ, 16, .inr (.inl (ty 0)))), ((u 6), .inr (0, [.ref (u 10), .ref (u 14), .long (tb 1), .int (tc 1)])), ((u 10), .inl (cJ, 16, .inr (.inl (tx 1)))), ((u 14), .inl (cJ, 16, .inr (.inl (ty 1)))), ((u 7), .inr (0, [.ref (u 11), .ref (u 15), .long (tb 2), .int (tc 2)])), ((u 11), .inl (cJ, 16, .inr (.inl (tx 2)))), ((u 15), .inl (cJ, 16, .inr (.inl (ty 2)))), ((u 8), .inr (0, [.ref (u 12), .ref (u 16), .long (tb 3), .int (tc 3)])), ((u 12), .inl (cJ, 16, .inr (.inl (tx 3)))), ((u 16), .inl (cJ, 16, .inr (.inl (ty 3)))), ((v 3), .inl (cI, 4, .inl rw_)), ((v 4), .inl (cJ, 64, .inr (.inl mx))), ((v 5), .inl (cJ, 64, .inr (.inl my))), ((v 6), .inl (cJ, 4, .inr (.inl bl))), ((v 7), .inl (cJ, 16, .inr (.inl mw))), (h, .inr (1, [.ref (u 0), .ref (u 1), .ref (u 2), .int n2, .ref (u 3), .int k, .ref (u 4)])), ((u 0), .inl (cJ, 500, .inr (.inl ab2))), ((u 1), .inl (cJ, 500, .inr (.inl be2))), ((u 2), .inl (cI, 500, .inl un2)), (ao, .inl (cJ, 1, .inr (.inl o2)))]) (w1 := [(g, .inr (2, [.int cd2, .int am2, .ref (v 0), .ref (v 1), .ref (v 2), .ref (v 3), .ref (v 4), .ref (v 5), .ref (v 6), .int k, .ref (v 7)])), ((v 0), .inl (cJ, 500, .inr (.inl up2))), ((v 1), .inl (cJ, 500, .inr (.inl dn2))), ((v 2), .inl (cI, 500, .inl mu2))]) hP hD [14, 15, 16, 17] [0, 1, 2, 3, 4, 5, 6, 7, 8, 9, 10, 11, 12, 13, 18, 19, 20, 21, 22, 23, 24, 25, 26, 27] rfl rfl (by decide) (by decide) hk1 hFc hP1 hD1
  generalize H1 = H at hP hS ⊢
  have hP : va_P (dC, dI) classes [((u 3), .inl (cJ, 16, .inr (.inl we))), ((u 4), .inl (cT, 4, .inr (.inr (.inr (.inr (tf0 (u 5) (u 6) (u 7) (u 8))))))), ((u 5), .inr (0, [.ref (u 9), .ref (u 13), .long (tb 0), .int (tc 0)])), ((u 9), .inl (cJ, 16, .inr (.inl (tx 0)))), ((u 13), .inl (cJ, 16, .inr (.inl (ty 0)))), ((u 6), .inr (0, [.ref (u 10), .ref (u 14), .long (tb 1), .int (tc 1)])), ((u 10), .inl (cJ, 16, .inr (.inl (tx 1)))), ((u 14), .inl (cJ, 16, .inr (.inl (ty 1)))), ((u 7), .inr (0, [.ref (u 11), .ref (u 15), .long (tb 2), .int (tc 2)])), ((u 11), .inl (cJ, 16, .inr (.inl (tx 2)))), ((u 15), .inl (cJ, 16, .inr (.inl (ty 2)))), ((u 8), .inr (0, [.ref (u 12), .ref (u 16), .long (tb 3), .int (tc 3)])), ((u 12), .inl (cJ, 16, .inr (.inl (tx 3)))), ((u 16), .inl (cJ, 16, .inr (.inl (ty 3)))), ((v 3), .inl (cI, 4, .inl rw_)), ((v 4), .inl (cJ, 64, .inr (.inl mx))), ((v 5), .inl (cJ, 64, .inr (.inl my))), ((v 6), .inl (cJ, 4, .inr (.inl bl))), ((v 7), .inl (cJ, 16, .inr (.inl mw))), (h, .inr (1, [.ref (u 0), .ref (u 1), .ref (u 2), .int n2, .ref (u 3), .int k, .ref (u 4)])), ((u 0), .inl (cJ, 500, .inr (.inl ab2))), ((u 1), .inl (cJ, 500, .inr (.inl be2))), ((u 2), .inl (cI, 500, .inl un2)), (ao, .inl (cJ, 1, .inr (.inl o2))), (g, .inr (2, [.int cd2, .int am2, .ref (v 0), .ref (v 1), .ref (v 2), .ref (v 3), .ref (v 4), .ref (v 5), .ref (v 6), .int k, .ref (v 7)])), ((v 0), .inl (cJ, 500, .inr (.inl up2))), ((v 1), .inl (cJ, 500, .inr (.inl dn2))), ((v 2), .inl (cI, 500, .inl mu2))] H := hP
  have hD : va_D (lA s) [((u 3), .inl (cJ, 16, .inr (.inl we))), ((u 4), .inl (cT, 4, .inr (.inr (.inr (.inr (tf0 (u 5) (u 6) (u 7) (u 8))))))), ((u 5), .inr (0, [.ref (u 9), .ref (u 13), .long (tb 0), .int (tc 0)])), ((u 9), .inl (cJ, 16, .inr (.inl (tx 0)))), ((u 13), .inl (cJ, 16, .inr (.inl (ty 0)))), ((u 6), .inr (0, [.ref (u 10), .ref (u 14), .long (tb 1), .int (tc 1)])), ((u 10), .inl (cJ, 16, .inr (.inl (tx 1)))), ((u 14), .inl (cJ, 16, .inr (.inl (ty 1)))), ((u 7), .inr (0, [.ref (u 11), .ref (u 15), .long (tb 2), .int (tc 2)])), ((u 11), .inl (cJ, 16, .inr (.inl (tx 2)))), ((u 15), .inl (cJ, 16, .inr (.inl (ty 2)))), ((u 8), .inr (0, [.ref (u 12), .ref (u 16), .long (tb 3), .int (tc 3)])), ((u 12), .inl (cJ, 16, .inr (.inl (tx 3)))), ((u 16), .inl (cJ, 16, .inr (.inl (ty 3)))), ((v 3), .inl (cI, 4, .inl rw_)), ((v 4), .inl (cJ, 64, .inr (.inl mx))), ((v 5), .inl (cJ, 64, .inr (.inl my))), ((v 6), .inl (cJ, 4, .inr (.inl bl))), ((v 7), .inl (cJ, 16, .inr (.inl mw))), (h, .inr (1, [.ref (u 0), .ref (u 1), .ref (u 2), .int n2, .ref (u 3), .int k, .ref (u 4)])), ((u 0), .inl (cJ, 500, .inr (.inl ab2))), ((u 1), .inl (cJ, 500, .inr (.inl be2))), ((u 2), .inl (cI, 500, .inl un2)), (ao, .inl (cJ, 1, .inr (.inl o2))), (g, .inr (2, [.int cd2, .int am2, .ref (v 0), .ref (v 1), .ref (v 2), .ref (v 3), .ref (v 4), .ref (v 5), .ref (v 6), .int k, .ref (v 7)])), ((v 0), .inl (cJ, 500, .inr (.inl up2))), ((v 1), .inl (cJ, 500, .inr (.inl dn2))), ((v 2), .inl (cI, 500, .inl mu2))] := hD
  obtain ⟨ec, en, hIA, eo⟩ := HV_use (E := e_X_value ab be un n x1 x3 w5) (P := f_X_value ab be un n x1 x3 w5) (Q := f_M_value up dn mu n x1 x3 w5) (e_value01 ab be un n x1 x3 w5).1 (fun q => (value_ag (x := x1) (y := x3) (z := w5) hIA).1 ((e_value01 ab be un n x1 x3 w5).2.1 q)) (fun q => (value_ag (x := x1) (y := x3) (z := w5) hIA).2 ((e_value01 ab be un n x1 x3 w5).2.2 q)) hIA hw_3 hw_7
  obtain rfl : n2 = am2 := en
  refine lv_istore (lv' := [(6, .int r_8), (5, .int r_4), (0, .ref b), (1, .ref h), (2, .ref g), (3, .ref ao), (4, .int (nI I))]) hx hb d_L_law_219 hl (by decide) rfl (fun ls hl => ?_)
  refine lv_aload_n hx hb d_L_law_221 rfl (lv_at hl 4 rfl) ?_
  have hPc := hP.sub (ws' := [(g, .inr (2, [.int cd2, .int n2, .ref (v 0), .ref (v 1), .ref (v 2), .ref (v 3), .ref (v 4), .ref (v 5), .ref (v 6), .int k, .ref (v 7)]))]) [24] rfl
  refine W.callV (W.runV (As := []) (rest := []) ⟨hx, hb, hml, hown, hg⟩ (k_M_thrown l dC dI cJ cI cT g (v 0) (v 1) (v 2) (v 3) (v 4) (v 5) (v 6) (v 7) cd2 n2 k ) (q_V 0 hg wg_291 wg_288 wg_289 wg_290 wg_15 rfl rfl (by decide +kernel) ⟨(Nat.le_of_ble_eq_true rfl), (Nat.le_of_ble_eq_true rfl)⟩) ⟨wd_blind, va_recv hK hPc (ci := 2) (q0 := 0) rfl rfl, wd_pre (as := .ref g :: []) hPc hK⟩ rfl rfl hl.1 rfl (lv_room (Nat.le_of_ble_eq_true rfl)) d_L_law_222 ⟨Nat.le_trans (by omega) hc, Nat.le_trans (by omega) hs⟩) ?_
  refine W.eq (g2 := F0 m 225 ls (.int (f_M_thrown cd2) :: [])) rfl ?_
  refine lv_iload hx hb d_L_law_225 (lv_at hl 1 rfl) ?_
  refine lv_icmp_eq (tgt := 232) hx hb d_L_law_227 (by decide) (fun c_9 => ?_) (fun c_9 => ?_)
  · skip
    refine lv_iload hx hb d_L_law_232 (lv_at hl 1 rfl) ?_
    refine lv_if_ne (tgt := 249) hx hb d_L_law_234 (by decide) (fun c_10 => ?_) (fun c_10 => ?_)
    · skip
      refine lv_goto (tgt := 933) hx hb d_L_law_249 (by decide) ?_
      refine W.widen (k := cells + 1) (n := slots + 6) (by omega) (by omega) ?_
      exact kk _ _ _ ⟨u, v, n2, k, cd2, ab2, be2, un2, we, tx, ty, tb, tc, up2, dn2, mu2, rw_, mx, my, bl, mw, o2, hP.sub (ws' := LW cJ cI cT h g ao u v n2 k cd2 ab2 be2 un2 we tx ty tb tc up2 dn2 mu2 rw_ mx my bl mw o2) [19, 20, 21, 22, 0, 1, 2, 3, 4, 5, 6, 7, 8, 9, 10, 11, 12, 13, 24, 25, 26, 27, 14, 15, 16, 17, 18, 23] rfl, hD.sub (ws' := LW cJ cI cT h g ao u v n2 k cd2 ab2 be2 un2 we tx ty tb tc up2 dn2 mu2 rw_ mx my bl mw o2) [19, 20, 21, 22, 0, 1, 2, 3, 4, 5, 6, 7, 8, 9, 10, 11, 12, 13, 24, 25, 26, 27, 14, 15, 16, 17, 18, 23] (by decide) rfl, hS, hIA, hIW, hIT⟩ (lv_sub hl [2, 3, 4, 5, 6] rfl)
    · skip
      refine lv_aload_n hx hb d_L_law_237 rfl (lv_at hl 5 rfl) ?_
      refine lv_iconst (v := 0) hx hb d_L_law_238 (by decide) ?_
      refine va_lald hx hb hK hP 23 0 rfl rfl (by unfold vp_in; decide) d_L_law_239 ?_
      refine lv_iload hx hb d_L_law_240 (lv_at hl 0 rfl) ?_
      refine lv_i2l hx hb d_L_law_242 rfl ?_
      refine W.lcmp hx hb d_L_law_243 ?_
      refine lv_if_eq (tgt := 249) hx hb d_L_law_244 (by decide) (fun c_11 => ?_) (fun c_11 => ?_)
      · skip
        rw [lg_cmp_eq] at c_11
        refine lv_goto (tgt := 933) hx hb d_L_law_249 (by decide) ?_
        refine W.widen (k := cells + 1) (n := slots + 6) (by omega) (by omega) ?_
        exact kk _ _ _ ⟨u, v, n2, k, cd2, ab2, be2, un2, we, tx, ty, tb, tc, up2, dn2, mu2, rw_, mx, my, bl, mw, o2, hP.sub (ws' := LW cJ cI cT h g ao u v n2 k cd2 ab2 be2 un2 we tx ty tb tc up2 dn2 mu2 rw_ mx my bl mw o2) [19, 20, 21, 22, 0, 1, 2, 3, 4, 5, 6, 7, 8, 9, 10, 11, 12, 13, 24, 25, 26, 27, 14, 15, 16, 17, 18, 23] rfl, hD.sub (ws' := LW cJ cI cT h g ao u v n2 k cd2 ab2 be2 un2 we tx ty tb tc up2 dn2 mu2 rw_ mx my bl mw o2) [19, 20, 21, 22, 0, 1, 2, 3, 4, 5, 6, 7, 8, 9, 10, 11, 12, 13, 24, 25, 26, 27, 14, 15, 16, 17, 18, 23] (by decide) rfl, hS, hIA, hIW, hIT⟩ (lv_sub hl [2, 3, 4, 5, 6] rfl)
      · skip
        rw [lg_cmp_eq] at c_11
        exact absurd (eo c_10) c_11
  · skip
    exact absurd ec c_9
end LAWC
