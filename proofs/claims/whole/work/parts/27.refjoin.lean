theorem nle_of {a b : Int32} (h : a < b) : ¬ b ≤ a := by
  rw [Int32.lt_iff_toInt_lt] at h
  rw [Int32.le_iff_toInt_le]
  omega
theorem first_in {t : Int32} (h0 : ¬ t < 0) (h1 : t < 4) : vp_in (16 * t) 64 := by
  obtain ⟨j, hj, e, -⟩ := t_of h0 (nle_of h1)
  rw [e, show (16 : Int32) * nI j = nI (16 * j) from pk_mul 16 j]
  exact vp_in_nI (by omega) (by decide)
/-- the first place from k on, among n, whose next is not before -/
def jn_L (mx : Nat → Int64) (d pl : Int64) : Nat → Nat → Nat
  | 0, k => k
  | n + 1, k => if mx (k + 1) * d < pl then jn_L mx d pl n (k + 1) else k
set_option maxHeartbeats 4000000 in
set_option maxRecDepth 100000 in
theorem lp_M_join {p : Program} {l : Launch} {e : Env} {R : Room} {s : State} {m : MethodId} {args : Array Value} {below : List Frame} {meth : Method} {c : Code} {H : Heap} {locs : List Loc} {cells slots : Nat} {Q : State → Prop} {dC : Nat → ClassId} {dI : Nat → Nat → Nat} {cJ cI cT : ClassId} {g m1 m2 m3 m4 m5 m6 m7 m8 : Nat} {am wc : Int32} {dn mx : Nat → Int64} {t_ a : Int32} {pl : Int64} (hx : p.tables.exec = Jvm.exec) (hb : c.code = c_M_join) (hg : ∀ w ∈ WG, w.before args s = true) (hown : s.vm.findClass R_M = some m.cls) (hin : vp_in a 500) (hK : va_K (dC, dI) classes (TY cJ cI cT) s) (hP : va_P (dC, dI) classes [(g, .inr (2, [.int 0, .int am, .ref m1, .ref m2, .ref m3, .ref m4, .ref m5, .ref m6, .ref m7, .int wc, .ref m8])), (m2, .inl (cJ, 500, .inr (.inl dn))), (m5, .inl (cJ, 64, .inr (.inl mx)))] H) : ∀ (q k : Nat) (ls : Array Slot), k + q ≤ 63 → lv_has ls 12 [(0, .ref g), (1, .int t_), (2, .int a), (3, .long pl), (6, .int (nI (k + q))), (7, .int (nI k))] → (∀ (ls' : Array Slot) (j : Nat), jn_L mx (dn a.toNatClampNeg) pl q k = j → j < k + q → lv_has ls' 12 [(0, .ref g), (1, .int t_), (2, .int a), (3, .long pl), (7, .int (nI j))] → W p l e R s m args below meth c H locs cells slots Q (F0 m 139 ls' [])) → (∀ ls' : Array Slot, jn_L mx (dn a.toNatClampNeg) pl q k = k + q → lv_has ls' 12 [(0, .ref g), (1, .int t_), (6, .int (nI (k + q)))] → W p l e R s m args below meth c H locs cells slots Q (F0 m 242 ls' [])) → W p l e R s m args below meth c H locs cells slots Q (F0 m 111 ls []) := by
  intro q
  induction q with
  | zero =>
    intro k ls hj hl kA kB
    refine lv_iload hx hb d_M_join_111 (lv_at hl 5 rfl) ?_
    refine lv_iload hx hb d_M_join_113 (lv_at hl 4 rfl) ?_
    refine lv_icmp_ge (tgt := 242) hx hb d_M_join_115 (by decide) (fun c_1 => ?_) (fun c_1 => ?_)
    · skip
      exact kB ls rfl (lv_sub hl [0, 1, 4] rfl)
    · skip
      exact absurd (nI_le (Nat.le_refl k) (by omega)) c_1
  | succ q ih =>
    intro k ls hj hl kA kB
    refine lv_iload hx hb d_M_join_111 (lv_at hl 5 rfl) ?_
    refine lv_iload hx hb d_M_join_113 (lv_at hl 4 rfl) ?_
    refine lv_icmp_ge (tgt := 242) hx hb d_M_join_115 (by decide) (fun c_1 => ?_) (fun c_1 => ?_)
    · skip
      exact absurd c_1 (nI_ge (by omega) (by omega))
    · skip
      refine lv_lload_n hx hb d_M_join_118 rfl (lv_at hl 3 rfl) ?_
      refine lv_aload_n hx hb d_M_join_119 rfl (lv_at hl 0 rfl) ?_
      refine va_get (D := (dC, dI)) (ci := 2) (v := .ref m5) (C := R_M) (T := F_M) (N := 11) hx hb hg in_M hown hK hP 0 rfl rfl 6 (by decide) (hg _ wg_272) (fun _ h9 => h9) rfl d_M_join_120 ?_
      refine lv_iload hx hb d_M_join_123 (lv_at hl 5 rfl) ?_
      refine lv_iconst (v := 1) hx hb d_M_join_125 (by decide) ?_
      refine lv_iadd hx hb d_M_join_126 ?_
      refine lv_topi (fun i_2 ei_2 => ?_)
      refine va_lald hx hb hK hP 2 0 rfl rfl (by rw [ei_2, nI_1]; exact vp_in_nI (by omega) (by decide)) d_M_join_127 ?_
      refine lv_aload_n hx hb d_M_join_128 rfl (lv_at hl 0 rfl) ?_
      refine va_get (D := (dC, dI)) (ci := 2) (v := .ref m2) (C := R_M) (T := F_M) (N := 11) hx hb hg in_M hown hK hP 0 rfl rfl 3 (by decide) (hg _ wg_269) (fun _ h9 => h9) rfl d_M_join_129 ?_
      refine lv_iload_n hx hb d_M_join_132 rfl (lv_at hl 2 rfl) ?_
      refine va_lald hx hb hK hP 1 0 rfl rfl hin d_M_join_133 ?_
      refine lv_lmul hx hb d_M_join_134 ?_
      refine W.lcmp hx hb d_M_join_135 ?_
      refine lv_if_gt (tgt := 236) hx hb d_M_join_136 (by decide) (fun c_3 => ?_) (fun c_3 => ?_)
      · skip
        rw [lg_cmp_gt] at c_3
        obtain ⟨v_4, ev_4⟩ : ∃ y : Int32, y = nI k + 1 := ⟨_, rfl⟩
        refine lv_iinc (v := v_4) (lv' := [(7, .int v_4), (0, .ref g), (1, .int t_), (2, .int a), (3, .long pl), (6, .int (nI (k + (q + 1))))]) hx hb d_M_join_236 hl (k := 5) rfl (by rw [ev_4]; rfl) (by decide) rfl (fun ls hl => ?_)
        refine lv_goto (tgt := 111) hx hb d_M_join_239 (by decide) ?_
        subst ev_4
        subst ei_2
        have e2 : (nI k + 1).toNatClampNeg = k + 1 := by rw [nI_1]; exact nI_clamp (by omega)
        rw [e2] at c_3
        rw [nI_1] at hl
        have e1 : k + (q + 1) = (k + 1) + q := by omega
        rw [show jn_L mx (dn a.toNatClampNeg) pl (q + 1) k = jn_L mx (dn a.toNatClampNeg) pl q (k + 1) from if_pos c_3, e1] at kA kB
        rw [e1] at hl hj
        exact ih (k + 1) ls (by omega) (lv_sub hl [1, 2, 3, 4, 5, 0] rfl) kA kB
      · skip
        rw [lg_cmp_gt] at c_3
        subst ei_2
        have e2 : (nI k + 1).toNatClampNeg = k + 1 := by rw [nI_1]; exact nI_clamp (by omega)
        rw [e2] at c_3
        exact kA ls k (if_neg c_3) (by omega) (lv_sub hl [0, 1, 2, 3, 5] rfl)
