section LAWC
variable {p : Program} {l : Launch} {e : Env} {s : State} {m : MethodId} {below : List Frame} {meth : Method} {c : Code} {b L : Nat} {xs : Nat → Int32} {dC : Nat → ClassId} {dI : Nat → Nat → Nat} {cJ cI cT : ClassId} {h g ao : Nat} {H : Heap} {locs : List Loc} {cells slots : Nat} {ls : Array Slot} {I : Nat}
set_option maxHeartbeats 4000000 in
set_option maxRecDepth 100000 in
/-- THE LAW'S LOOP: at its head, with I ints read, both objects agree -/
theorem law_loop (C0 : lw_At p s m meth c b L xs) (E0 : LE0 l s dC dI cJ cI cT) (hL : L ≤ 4096) : ∀ (n I cells slots : Nat), I ≤ L → L + 1 ≤ I + 8 * n → cells + n ≤ room_1.cells → slots + 6 * n ≤ room_1.slots → ∀ (H : Heap) (locs : List Loc) (ls : Array Slot), LI s dC dI cJ cI cT h g ao H locs → lv_has ls 7 [(0, .ref b), (1, .ref h), (2, .ref g), (3, .ref ao), (4, .int (nI I))] → W p l e room_1 s m #[Value.ref b] below meth c H locs cells slots (lw_Z below #[Value.ref b] s) (F0 m 23 ls []) := by
  intro n
  induction n with
  | zero =>
    intro I cells slots h1 h2
    exact absurd h2 (by omega)
  | succ n ih =>
    intro I cells slots hI1 hI2 hc0 hs0 H locs ls hi hl
    obtain ⟨hx, hb, hr, hml, hown, hts, hX, hbl, hlocks, hgv⟩ := id C0
    have hbA : ¬ lA s b := Nat.not_le.mpr hbl
    have hS := LI_S hi
    have hc : cells + 1 ≤ room_1.cells := Nat.le_trans (by omega) hc0
    have hs : slots + 6 ≤ room_1.slots := Nat.le_trans (by omega) hs0
    refine lv_iload hx hb d_L_law_23 (lv_at hl 4 rfl) ?_
    refine lv_aload_n hx hb d_L_law_25 rfl (lv_at hl 0 rfl) ?_
    refine va_slen hx hb hX hbl hbA hS d_L_law_26 ?_
    refine lv_bipush (v := 8) hx hb d_L_law_27 (by decide) ?_
    refine lv_isub hx hb d_L_law_29 ?_
    refine lv_icmp_gt (tgt := 939) hx hb d_L_law_30 (by decide) (fun c_1 => ?_) (fun c_1 => ?_)
    · refine lv_iconst (v := 1) hx hb d_L_law_939 (by decide) ?_
      refine va_forget (fun q hq => hS.2.2 q hq) ?_
      refine W.widen (k := 601024) (n := 7293034) (Nat.le_trans (by omega) hc) (Nat.le_trans (by omega) hs) ?_
      exact lw_ret hx hb hr hlocks d_L_law_940
    · have hI : I + 8 ≤ L := lp_in hI1 hL c_1
      have kk : LK p l e s m below meth c b dC dI cJ cI cT h g ao I cells slots := by
        intro H locs ls hi hl
        obtain ⟨y9, ey9⟩ : ∃ y : Int32, y = nI I + 8 := ⟨_, rfl⟩
        refine lv_iinc (v := y9) (lv' := [(4, .int y9), (0, .ref b), (1, .ref h), (2, .ref g), (3, .ref ao)]) hx hb d_L_law_933 hl (k := 4) rfl (by rw [ey9]; rfl) (by decide) rfl (fun ls hl => ?_)
        refine lv_goto (tgt := 23) hx hb d_L_law_936 (by decide) ?_
        obtain rfl : nI (I + 8) = y9 := (nI_add I 8).symm.trans ey9.symm
        exact ih (I + 8) (cells + 1) (slots + 6) (by omega) (by omega) (Nat.le_trans (by omega) hc0) (Nat.le_trans (by omega) hs0) H locs ls hi (lv_sub hl [1, 2, 3, 4, 0] rfl)
      obtain ⟨w0, v0⟩ : ∃ w : Int32, xs (nI I).toNatClampNeg = w := ⟨_, rfl⟩
      refine lv_aload_n hx hb d_L_law_33 rfl (lv_at hl 0 rfl) ?_
      refine lv_iload hx hb d_L_law_34 (lv_at hl 4 rfl) ?_
      refine l_sld hx hb hX hbl hbA hS (vp_in_nI (by omega) (by omega)) v0 d_L_law_36 ?_
      refine lv_bipush (v := 15) hx hb d_L_law_37 (by decide) ?_
      refine lv_iand hx hb d_L_law_39 ?_
      refine lv_topi (fun z ez => ?_)
      by_cases c0_ : z = 0
      · refine lv_tableIn (off := 68) (tgt := 108) hx hb d_L_law_40 (by rw [c0_]; decide) (by rw [c0_]; decide) (by rw [c0_]; rfl) (by decide) ?_
        exact lc_value C0 E0 hI hL hi hc hs hl kk
      by_cases c1_ : z = 1
      · refine lv_tableIn (off := 212) (tgt := 252) hx hb d_L_law_40 (by rw [c1_]; decide) (by rw [c1_]; decide) (by rw [c1_]; rfl) (by decide) ?_
        exact lc_add C0 E0 hI hL hi hc hs hl kk
      by_cases c2_ : z = 2
      · refine lv_tableIn (off := 249) (tgt := 289) hx hb d_L_law_40 (by rw [c2_]; decide) (by rw [c2_]; decide) (by rw [c2_]; rfl) (by decide) ?_
        exact lc_times C0 E0 hI hL hi hc hs hl kk
      by_cases c3_ : z = 3
      · refine lv_tableIn (off := 286) (tgt := 326) hx hb d_L_law_40 (by rw [c3_]; decide) (by rw [c3_]; decide) (by rw [c3_]; rfl) (by decide) ?_
        exact lc_over C0 E0 hI hL hi hc hs hl kk
      by_cases c4_ : z = 4
      · refine lv_tableIn (off := 354) (tgt := 394) hx hb d_L_law_40 (by rw [c4_]; decide) (by rw [c4_]; decide) (by rw [c4_]; rfl) (by decide) ?_
        exact lc_round C0 E0 hI hL hi hc hs hl kk
      by_cases c5_ : z = 5
      · refine lv_tableIn (off := 435) (tgt := 475) hx hb d_L_law_40 (by rw [c5_]; decide) (by rw [c5_]; decide) (by rw [c5_]; rfl) (by decide) ?_
        exact lc_order C0 E0 hI hL hi hc hs hl kk
      by_cases c6_ : z = 6
      · refine lv_tableIn (off := 472) (tgt := 512) hx hb d_L_law_40 (by rw [c6_]; decide) (by rw [c6_]; decide) (by rw [c6_]; rfl) (by decide) ?_
        exact lc_row C0 E0 hI hL hi hc hs hl kk
      by_cases c7_ : z = 7
      · refine lv_tableIn (off := 633) (tgt := 673) hx hb d_L_law_40 (by rw [c7_]; decide) (by rw [c7_]; decide) (by rw [c7_]; rfl) (by decide) ?_
        exact lc_join C0 E0 hI hL hi hc hs hl kk
      by_cases c8_ : z = 8
      · refine lv_tableIn (off := 670) (tgt := 710) hx hb d_L_law_40 (by rw [c8_]; decide) (by rw [c8_]; decide) (by rw [c8_]; rfl) (by decide) ?_
        exact lc_weight C0 E0 hI hL hi hc hs hl kk
      by_cases c9_ : z = 9
      · refine lv_tableIn (off := 727) (tgt := 767) hx hb d_L_law_40 (by rw [c9_]; decide) (by rw [c9_]; decide) (by rw [c9_]; rfl) (by decide) ?_
        exact lc_share C0 E0 hI hL hi hc hs hl kk
      by_cases c10_ : z = 10
      · refine lv_tableIn (off := 764) (tgt := 804) hx hb d_L_law_40 (by rw [c10_]; decide) (by rw [c10_]; decide) (by rw [c10_]; rfl) (by decide) ?_
        exact lc_digit C0 E0 hI hL hi hc hs hl kk
      by_cases c11_ : z = 11
      · refine lv_tableIn (off := 844) (tgt := 884) hx hb d_L_law_40 (by rw [c11_]; decide) (by rw [c11_]; decide) (by rw [c11_]; rfl) (by decide) ?_
        exact lc_told C0 E0 hI hL hi hc hs hl kk
      by_cases c12_ : z = 12
      · refine lv_tableIn (off := 882) (tgt := 922) hx hb d_L_law_40 (by rw [c12_]; decide) (by rw [c12_]; decide) (by rw [c12_]; rfl) (by decide) ?_
        exact lc_clear C0 E0 hI hL hi hc hs hl kk
      refine lv_tableOut (tgt := 933) hx hb d_L_law_40 (by have n0 := lv_neT (a := 0) c0_ rfl; have n1 := lv_neT (a := 1) c1_ rfl; have n2 := lv_neT (a := 2) c2_ rfl; have n3 := lv_neT (a := 3) c3_ rfl; have n4 := lv_neT (a := 4) c4_ rfl; have n5 := lv_neT (a := 5) c5_ rfl; have n6 := lv_neT (a := 6) c6_ rfl; have n7 := lv_neT (a := 7) c7_ rfl; have n8 := lv_neT (a := 8) c8_ rfl; have n9 := lv_neT (a := 9) c9_ rfl; have n10 := lv_neT (a := 10) c10_ rfl; have n11 := lv_neT (a := 11) c11_ rfl; have n12 := lv_neT (a := 12) c12_ rfl; omega) (by decide) ?_
      refine W.widen (k := cells + 1) (n := slots + 6) (by omega) (by omega) ?_
      exact kk H locs ls hi hl
end LAWC
