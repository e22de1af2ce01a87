set_option maxHeartbeats 4000000 in
set_option maxRecDepth 100000 in
theorem lp_M_share1 {p : Program} {l : Launch} {e : Env} {R : Room} {s : State} {m : MethodId} {args : Array Value} {below : List Frame} {meth : Method} {c : Code} {H : Heap} {locs : List Loc} {cells slots : Nat} {Q : State → Prop} {dC : Nat → ClassId} {dI : Nat → Nat → Nat} {cJ cI cT : ClassId} {g m1 m2 m3 m4 m5 m6 m7 m8 : Nat} {cd am : Int32} {mw : Nat → Int64} {a kx : Int32} (hx : p.tables.exec = Jvm.exec) (hb : c.code = c_M_share) (hg : ∀ w ∈ WG, w.before args s = true) (hown : s.vm.findClass R_M = some m.cls) (hK : va_K (dC, dI) classes (TY cJ cI cT) s) : ∀ (q j : Nat) (x : Int64) (ls : Array Slot), va_P (dC, dI) classes [(g, .inr (2, [.int cd, .int am, .ref m1, .ref m2, .ref m3, .ref m4, .ref m5, .ref m6, .ref m7, .int (nI (j + q)), .ref m8])), (m8, .inl (cJ, 16, .inr (.inl mw)))] H → j + q ≤ 16 → lv_has ls 17 [(0, .ref g), (1, .int a), (2, .int kx), (3, .long x), (5, .int (nI j))] → (∀ ls' : Array Slot, lv_has ls' 17 [(0, .ref g), (1, .int a), (2, .int kx), (3, .long (sum_L mw q j x))] → W p l e R s m args below meth c H locs cells slots Q (F0 m 58 ls' [])) → W p l e R s m args below meth c H locs cells slots Q (F0 m 33 ls []) := by
  intro q
  induction q with
  | zero =>
    intro j x ls hP hj hl kk
    refine lv_iload hx hb d_M_share_33 (lv_at hl 4 rfl) ?_
    refine lv_aload_n hx hb d_M_share_35 rfl (lv_at hl 0 rfl) ?_
    refine va_get (D := (dC, dI)) (ci := 2) (v := .int (nI (j + 0))) (C := R_M) (T := F_M) (N := 11) hx hb hg in_M hown hK hP 0 rfl rfl 9 (by decide) (hg _ wg_275) (fun _ h9 => h9) rfl d_M_share_36 ?_
    refine lv_icmp_ge (tgt := 58) hx hb d_M_share_39 (by decide) (fun c_1 => ?_) (fun c_1 => ?_)
    · skip
      exact kk ls (lv_sub hl [0, 1, 2, 3] rfl)
    · skip
      exact absurd (nI_le (Nat.le_refl j) (by omega)) c_1
  | succ q ih =>
    intro j x ls hP hj hl kk
    refine lv_iload hx hb d_M_share_33 (lv_at hl 4 rfl) ?_
    refine lv_aload_n hx hb d_M_share_35 rfl (lv_at hl 0 rfl) ?_
    refine va_get (D := (dC, dI)) (ci := 2) (v := .int (nI (j + (q + 1)))) (C := R_M) (T := F_M) (N := 11) hx hb hg in_M hown hK hP 0 rfl rfl 9 (by decide) (hg _ wg_275) (fun _ h9 => h9) rfl d_M_share_36 ?_
    refine lv_icmp_ge (tgt := 58) hx hb d_M_share_39 (by decide) (fun c_1 => ?_) (fun c_1 => ?_)
    · skip
      exact absurd c_1 (nI_ge (by omega) (by omega))
    · skip
      refine lv_lload_n hx hb d_M_share_42 rfl (lv_at hl 3 rfl) ?_
      refine lv_aload_n hx hb d_M_share_43 rfl (lv_at hl 0 rfl) ?_
      refine va_get (D := (dC, dI)) (ci := 2) (v := .ref m8) (C := R_M) (T := F_M) (N := 11) hx hb hg in_M hown hK hP 0 rfl rfl 10 (by decide) (hg _ wg_276) (fun _ h9 => h9) rfl d_M_share_44 ?_
      refine lv_iload hx hb d_M_share_47 (lv_at hl 4 rfl) ?_
      refine va_lald hx hb hK hP 1 0 rfl rfl (vp_in_nI (by omega) (by decide)) d_M_share_49 ?_
      refine lv_ladd hx hb d_M_share_50 ?_
      refine lv_topl (fun v_2 ev_2 => ?_)
      refine lv_lstore_n (lv' := [(3, .long v_2), (0, .ref g), (1, .int a), (2, .int kx), (5, .int (nI j))]) hx hb d_M_share_51 rfl hl (by decide) rfl (fun ls hl => ?_)
      obtain ⟨v_3, ev_3⟩ : ∃ y : Int32, y = nI j + 1 := ⟨_, rfl⟩
      refine lv_iinc (v := v_3) (lv' := [(5, .int v_3), (3, .long v_2), (0, .ref g), (1, .int a), (2, .int kx)]) hx hb d_M_share_52 hl (k := 4) rfl (by rw [ev_3]; rfl) (by decide) rfl (fun ls hl => ?_)
      refine lv_goto (tgt := 33) hx hb d_M_share_55 (by decide) ?_
      subst ev_3
      subst ev_2
      rw [nI_1] at hl
      rw [nI_clamp (show j < 2 ^ 31 by omega)] at hl
      have e1 : j + (q + 1) = (j + 1) + q := by omega
      rw [e1] at hP
      exact ih (j + 1) _ ls hP (by omega) (lv_sub hl [2, 3, 4, 1, 0] rfl) kk
def ts_s (ow o : Int64) (kx i : Int32) : Int64 := if ow < o then 1 else if o = ow then if kx ≤ i then 0 else 1 else 0
def ts_L (mw : Nat → Int64) (t all ow : Int64) (kx : Int32) : Nat → Nat → Int64 → Int64 → Int64 × Int64
  | 0, _, x, y => (x, y)
  | n + 1, j, x, y => ts_L mw t all ow kx n (j + 1) (x - t * mw j / all) (y + ts_s ow (t * mw j - t * mw j / all * all) kx (nI j))
set_option maxHeartbeats 4000000 in
set_option maxRecDepth 100000 in
theorem lp_M_share2 {p : Program} {l : Launch} {e : Env} {R : Room} {s : State} {m : MethodId} {args : Array Value} {below : List Frame} {meth : Method} {c : Code} {H : Heap} {locs : List Loc} {cells slots : Nat} {Q : State → Prop} {dC : Nat → ClassId} {dI : Nat → Nat → Nat} {cJ cI cT : ClassId} {g m1 m2 m3 m4 m5 m6 m7 m8 : Nat} {cd am : Int32} {mw : Nat → Int64} {a kx : Int32} {t all ow : Int64} (hx : p.tables.exec = Jvm.exec) (hb : c.code = c_M_share) (hg : ∀ w ∈ WG, w.before args s = true) (hown : s.vm.findClass R_M = some m.cls) (hall : ¬ all = 0) (hK : va_K (dC, dI) classes (TY cJ cI cT) s) : ∀ (q j : Nat) (x y : Int64) (ls : Array Slot), va_P (dC, dI) classes [(g, .inr (2, [.int cd, .int am, .ref m1, .ref m2, .ref m3, .ref m4, .ref m5, .ref m6, .ref m7, .int (nI (j + q)), .ref m8])), (m8, .inl (cJ, 16, .inr (.inl mw)))] H → j + q ≤ 16 → lv_has ls 17 [(0, .ref g), (1, .int a), (2, .int kx), (3, .long all), (5, .long t), (7, .long x), (9, .long y), (11, .long ow), (13, .int (nI j))] → (∀ ls' : Array Slot, lv_has ls' 17 [(0, .ref g), (1, .int a), (2, .int kx), (3, .long all), (5, .long t), (7, .long (ts_L mw t all ow kx q j x y).1), (9, .long (ts_L mw t all ow kx q j x y).2)] → W p l e R s m args below meth c H locs cells slots Q (F0 m 197 ls' [])) → W p l e R s m args below meth c H locs cells slots Q (F0 m 119 ls []) := by
  intro q
  induction q with
  | zero =>
    intro j x y ls hP hj hl kk
    refine lv_iload hx hb d_M_share_119 (lv_at hl 8 rfl) ?_
    refine lv_aload_n hx hb d_M_share_121 rfl (lv_at hl 0 rfl) ?_
    refine va_get (D := (dC, dI)) (ci := 2) (v := .int (nI (j + 0))) (C := R_M) (T := F_M) (N := 11) hx hb hg in_M hown hK hP 0 rfl rfl 9 (by decide) (hg _ wg_275) (fun _ h9 => h9) rfl d_M_share_122 ?_
    refine lv_icmp_ge (tgt := 197) hx hb d_M_share_125 (by decide) (fun c_1 => ?_) (fun c_1 => ?_)
    · skip
      exact kk ls (lv_sub hl [0, 1, 2, 3, 4, 5, 6] rfl)
    · skip
      exact absurd (nI_le (Nat.le_refl j) (by omega)) c_1
  | succ q ih =>
    intro j x y ls hP hj hl kk
    refine lv_iload hx hb d_M_share_119 (lv_at hl 8 rfl) ?_
    refine lv_aload_n hx hb d_M_share_121 rfl (lv_at hl 0 rfl) ?_
    refine va_get (D := (dC, dI)) (ci := 2) (v := .int (nI (j + (q + 1)))) (C := R_M) (T := F_M) (N := 11) hx hb hg in_M hown hK hP 0 rfl rfl 9 (by decide) (hg _ wg_275) (fun _ h9 => h9) rfl d_M_share_122 ?_
    refine lv_icmp_ge (tgt := 197) hx hb d_M_share_125 (by decide) (fun c_1 => ?_) (fun c_1 => ?_)
    · skip
      exact absurd c_1 (nI_ge (by omega) (by omega))
    · skip
      refine lv_lload hx hb d_M_share_128 (lv_at hl 5 rfl) ?_
      refine lv_lload hx hb d_M_share_130 (lv_at hl 4 rfl) ?_
      refine lv_aload_n hx hb d_M_share_132 rfl (lv_at hl 0 rfl) ?_
      refine va_get (D := (dC, dI)) (ci := 2) (v := .ref m8) (C := R_M) (T := F_M) (N := 11) hx hb hg in_M hown hK hP 0 rfl rfl 10 (by decide) (hg _ wg_276) (fun _ h9 => h9) rfl d_M_share_133 ?_
      refine lv_iload hx hb d_M_share_136 (lv_at hl 8 rfl) ?_
      refine va_lald hx hb hK hP 1 0 rfl rfl (vp_in_nI (by omega) (by decide)) d_M_share_138 ?_
      refine lv_lmul hx hb d_M_share_139 ?_
      refine lv_lload_n hx hb d_M_share_140 rfl (lv_at hl 3 rfl) ?_
      refine lv_ldiv hx hb d_M_share_141 hall ?_
      refine lv_lsub hx hb d_M_share_142 ?_
      refine lv_topl (fun v_2 ev_2 => ?_)
      refine lv_lstore (lv' := [(7, .long v_2), (0, .ref g), (1, .int a), (2, .int kx), (3, .long all), (5, .long t), (9, .long y), (11, .long ow), (13, .int (nI j))]) hx hb d_M_share_143 hl (by decide) rfl (fun ls hl => ?_)
      refine lv_lload hx hb d_M_share_145 (lv_at hl 5 rfl) ?_
      refine lv_aload_n hx hb d_M_share_147 rfl (lv_at hl 1 rfl) ?_
      refine va_get (D := (dC, dI)) (ci := 2) (v := .ref m8) (C := R_M) (T := F_M) (N := 11) hx hb hg in_M hown hK hP 0 rfl rfl 10 (by decide) (hg _ wg_276) (fun _ h9 => h9) rfl d_M_share_148 ?_
      refine lv_iload hx hb d_M_share_151 (lv_at hl 8 rfl) ?_
      refine va_lald hx hb hK hP 1 0 rfl rfl (vp_in_nI (by omega) (by decide)) d_M_share_153 ?_
      refine lv_lmul hx hb d_M_share_154 ?_
      refine lv_lload_n hx hb d_M_share_155 rfl (lv_at hl 4 rfl) ?_
      refine lv_lrem hx hb d_M_share_156 hall ?_
      refine lv_topl (fun v_3 ev_3 => ?_)
      refine lv_lstore (lv' := [(14, .long v_3), (7, .long v_2), (0, .ref g), (1, .int a), (2, .int kx), (3, .long all), (5, .long t), (9, .long y), (11, .long ow), (13, .int (nI j))]) hx hb d_M_share_157 hl (by decide) rfl (fun ls hl => ?_)
      refine lv_lload hx hb d_M_share_159 (lv_at hl 7 rfl) ?_
      refine lv_lload hx hb d_M_share_161 (lv_at hl 0 rfl) ?_
      refine lv_lload hx hb d_M_share_163 (lv_at hl 8 rfl) ?_
      refine W.lcmp hx hb d_M_share_165 ?_
      refine lv_if_gt (tgt := 183) hx hb d_M_share_166 (by decide) (fun c_4 => ?_) (fun c_4 => ?_)
      · skip
        rw [lg_cmp_gt] at c_4
        refine lv_lconst (v := 1) hx hb d_M_share_183 (by decide) ?_
        refine lv_goto (tgt := 188) hx hb d_M_share_184 (by decide) ?_
        refine lv_ladd hx hb d_M_share_188 ?_
        refine lv_topl (fun v_5 ev_5 => ?_)
        refine lv_lstore (lv' := [(9, .long v_5), (14, .long v_3), (7, .long v_2), (0, .ref g), (1, .int a), (2, .int kx), (3, .long all), (5, .long t), (11, .long ow), (13, .int (nI j))]) hx hb d_M_share_189 hl (by decide) rfl (fun ls hl => ?_)
        obtain ⟨v_6, ev_6⟩ : ∃ y : Int32, y = nI j + 1 := ⟨_, rfl⟩
        refine lv_iinc (v := v_6) (lv' := [(13, .int v_6), (9, .long v_5), (14, .long v_3), (7, .long v_2), (0, .ref g), (1, .int a), (2, .int kx), (3, .long all), (5, .long t), (11, .long ow)]) hx hb d_M_share_191 hl (k := 9) rfl (by rw [ev_6]; rfl) (by decide) rfl (fun ls hl => ?_)
        refine lv_goto (tgt := 119) hx hb d_M_share_194 (by decide) ?_
        subst ev_6
        subst ev_5
        subst ev_3
        subst ev_2
        rw [nI_1] at hl
        have e2 : (nI j).toNatClampNeg = j := nI_clamp (by omega)
        try rw [e2] at c_4
        rw [e2] at hl
        have e1 : j + (q + 1) = (j + 1) + q := by omega
        rw [e1] at hP
        have ez : ts_s ow (t * mw j - t * mw j / all * all) kx (nI j) = 1 := by unfold ts_s; rw [if_pos c_4]
        rw [show ts_L mw t all ow kx (q + 1) j x y = ts_L mw t all ow kx q (j + 1) (x - t * mw j / all) (y + 1) from congrArg (fun z => ts_L mw t all ow kx q (j + 1) (x - t * mw j / all) (y + z)) ez] at kk
        exact ih (j + 1) _ _ ls hP (by omega) (lv_sub hl [4, 5, 6, 7, 8, 3, 1, 9, 0] rfl) kk
      · skip
        rw [lg_cmp_gt] at c_4
        refine lv_lload hx hb d_M_share_169 (lv_at hl 0 rfl) ?_
        refine lv_lload hx hb d_M_share_171 (lv_at hl 8 rfl) ?_
        refine W.lcmp hx hb d_M_share_173 ?_
        refine lv_if_ne (tgt := 187) hx hb d_M_share_174 (by decide) (fun c_7 => ?_) (fun c_7 => ?_)
        · skip
          rw [lg_cmp_eq] at c_7
          refine lv_lconst (v := 0) hx hb d_M_share_187 (by decide) ?_
          refine lv_ladd hx hb d_M_share_188 ?_
          refine lv_topl (fun v_8 ev_8 => ?_)
          refine lv_lstore (lv' := [(9, .long v_8), (14, .long v_3), (7, .long v_2), (0, .ref g), (1, .int a), (2, .int kx), (3, .long all), (5, .long t), (11, .long ow), (13, .int (nI j))]) hx hb d_M_share_189 hl (by decide) rfl (fun ls hl => ?_)
          obtain ⟨v_9, ev_9⟩ : ∃ y : Int32, y = nI j + 1 := ⟨_, rfl⟩
          refine lv_iinc (v := v_9) (lv' := [(13, .int v_9), (9, .long v_8), (14, .long v_3), (7, .long v_2), (0, .ref g), (1, .int a), (2, .int kx), (3, .long all), (5, .long t), (11, .long ow)]) hx hb d_M_share_191 hl (k := 9) rfl (by rw [ev_9]; rfl) (by decide) rfl (fun ls hl => ?_)
          refine lv_goto (tgt := 119) hx hb d_M_share_194 (by decide) ?_
          subst ev_9
          subst ev_8
          subst ev_3
          subst ev_2
          rw [nI_1] at hl
          have e2 : (nI j).toNatClampNeg = j := nI_clamp (by omega)
          try rw [e2] at c_4
          try rw [e2] at c_7
          rw [e2] at hl
          have e1 : j + (q + 1) = (j + 1) + q := by omega
          rw [e1] at hP
          have ez : ts_s ow (t * mw j - t * mw j / all * all) kx (nI j) = 0 := by unfold ts_s; rw [if_neg c_4, if_neg c_7]
          rw [show ts_L mw t all ow kx (q + 1) j x y = ts_L mw t all ow kx q (j + 1) (x - t * mw j / all) (y + 0) from congrArg (fun z => ts_L mw t all ow kx q (j + 1) (x - t * mw j / all) (y + z)) ez] at kk
          exact ih (j + 1) _ _ ls hP (by omega) (lv_sub hl [4, 5, 6, 7, 8, 3, 1, 9, 0] rfl) kk
        · skip
          rw [lg_cmp_eq] at c_7
          refine lv_iload hx hb d_M_share_177 (lv_at hl 9 rfl) ?_
          refine lv_iload_n hx hb d_M_share_179 rfl (lv_at hl 4 rfl) ?_
          refine lv_icmp_ge (tgt := 187) hx hb d_M_share_180 (by decide) (fun c_10 => ?_) (fun c_10 => ?_)
          · skip
            refine lv_lconst (v := 0) hx hb d_M_share_187 (by decide) ?_
            refine lv_ladd hx hb d_M_share_188 ?_
            refine lv_topl (fun v_11 ev_11 => ?_)
            refine lv_lstore (lv' := [(9, .long v_11), (14, .long v_3), (7, .long v_2), (0, .ref g), (1, .int a), (2, .int kx), (3, .long all), (5, .long t), (11, .long ow), (13, .int (nI j))]) hx hb d_M_share_189 hl (by decide) rfl (fun ls hl => ?_)
            obtain ⟨v_12, ev_12⟩ : ∃ y : Int32, y = nI j + 1 := ⟨_, rfl⟩
            refine lv_iinc (v := v_12) (lv' := [(13, .int v_12), (9, .long v_11), (14, .long v_3), (7, .long v_2), (0, .ref g), (1, .int a), (2, .int kx), (3, .long all), (5, .long t), (11, .long ow)]) hx hb d_M_share_191 hl (k := 9) rfl (by rw [ev_12]; rfl) (by decide) rfl (fun ls hl => ?_)
            refine lv_goto (tgt := 119) hx hb d_M_share_194 (by decide) ?_
            subst ev_12
            subst ev_11
            subst ev_3
            subst ev_2
            rw [nI_1] at hl
            have e2 : (nI j).toNatClampNeg = j := nI_clamp (by omega)
            try rw [e2] at c_4
            try rw [e2] at c_7
            try rw [e2] at c_10
            rw [e2] at hl
            have e1 : j + (q + 1) = (j + 1) + q := by omega
            rw [e1] at hP
            have ez : ts_s ow (t * mw j - t * mw j / all * all) kx (nI j) = 0 := by unfold ts_s; rw [if_neg c_4, if_pos c_7, if_pos c_10]
            rw [show ts_L mw t all ow kx (q + 1) j x y = ts_L mw t all ow kx q (j + 1) (x - t * mw j / all) (y + 0) from congrArg (fun z => ts_L mw t all ow kx q (j + 1) (x - t * mw j / all) (y + z)) ez] at kk
            exact ih (j + 1) _ _ ls hP (by omega) (lv_sub hl [4, 5, 6, 7, 8, 3, 1, 9, 0] rfl) kk
          · skip
            refine lv_lconst (v := 1) hx hb d_M_share_183 (by decide) ?_
            refine lv_goto (tgt := 188) hx hb d_M_share_184 (by decide) ?_
            refine lv_ladd hx hb d_M_share_188 ?_
            refine lv_topl (fun v_13 ev_13 => ?_)
            refine lv_lstore (lv' := [(9, .long v_13), (14, .long v_3), (7, .long v_2), (0, .ref g), (1, .int a), (2, .int kx), (3, .long all), (5, .long t), (11, .long ow), (13, .int (nI j))]) hx hb d_M_share_189 hl (by decide) rfl (fun ls hl => ?_)
            obtain ⟨v_14, ev_14⟩ : ∃ y : Int32, y = nI j + 1 := ⟨_, rfl⟩
            refine lv_iinc (v := v_14) (lv' := [(13, .int v_14), (9, .long v_13), (14, .long v_3), (7, .long v_2), (0, .ref g), (1, .int a), (2, .int kx), (3, .long all), (5, .long t), (11, .long ow)]) hx hb d_M_share_191 hl (k := 9) rfl (by rw [ev_14]; rfl) (by decide) rfl (fun ls hl => ?_)
            refine lv_goto (tgt := 119) hx hb d_M_share_194 (by decide) ?_
            subst ev_14
            subst ev_13
            subst ev_3
            subst ev_2
            rw [nI_1] at hl
            have e2 : (nI j).toNatClampNeg = j := nI_clamp (by omega)
            try rw [e2] at c_4
            try rw [e2] at c_7
            try rw [e2] at c_10
            rw [e2] at hl
            have e1 : j + (q + 1) = (j + 1) + q := by omega
            rw [e1] at hP
            have ez : ts_s ow (t * mw j - t * mw j / all * all) kx (nI j) = 1 := by unfold ts_s; rw [if_neg c_4, if_pos c_7, if_neg c_10]
            rw [show ts_L mw t all ow kx (q + 1) j x y = ts_L mw t all ow kx q (j + 1) (x - t * mw j / all) (y + 1) from congrArg (fun z => ts_L mw t all ow kx q (j + 1) (x - t * mw j / all) (y + z)) ez] at kk
            exact ih (j + 1) _ _ ls hP (by omega) (lv_sub hl [4, 5, 6, 7, 8, 3, 1, 9, 0] rfl) kk
def f_M_share (up dn : Nat → Int64) (mu : Nat → Int32) (am : Int32) (mw : Nat → Int64) (wc : Int32) (a : Int32) (kx : Int32) : Int32 × Int32 × (Nat → Int64) × (Nat → Int64) × (Nat → Int32) × Int32 := if (f_M_isAmount a am) = 0 then ((-3), (0, up, dn, mu, am)) else if kx < 0 then ((-3), (0, up, dn, mu, am)) else if kx < wc then if (up a.toNatClampNeg) < 0 then ((-1), (0, up, dn, mu, am)) else if (sum_L mw wc.toNatClampNeg 0 0) = 0 then ((-1), (0, up, dn, mu, am)) else if ((ts_L mw (((up a.toNatClampNeg) * 1000) / (dn a.toNatClampNeg)) (sum_L mw wc.toNatClampNeg 0 0) (((((up a.toNatClampNeg) * 1000) / (dn a.toNatClampNeg)) * (mw kx.toNatClampNeg)) - ((((up a.toNatClampNeg) * 1000) / (dn a.toNatClampNeg)) * (mw kx.toNatClampNeg)) / (sum_L mw wc.toNatClampNeg 0 0) * (sum_L mw wc.toNatClampNeg 0 0)) kx wc.toNatClampNeg 0 (((up a.toNatClampNeg) * 1000) / (dn a.toNatClampNeg)) 0).1) ≤ ((ts_L mw (((up a.toNatClampNeg) * 1000) / (dn a.toNatClampNeg)) (sum_L mw wc.toNatClampNeg 0 0) (((((up a.toNatClampNeg) * 1000) / (dn a.toNatClampNeg)) * (mw kx.toNatClampNeg)) - ((((up a.toNatClampNeg) * 1000) / (dn a.toNatClampNeg)) * (mw kx.toNatClampNeg)) / (sum_L mw wc.toNatClampNeg 0 0) * (sum_L mw wc.toNatClampNeg 0 0)) kx wc.toNatClampNeg 0 (((up a.toNatClampNeg) * 1000) / (dn a.toNatClampNeg)) 0).2) then if kx = 0 then (mk5 0 (f_M_make up dn mu am ((((((((up a.toNatClampNeg) * 1000) / (dn a.toNatClampNeg)) * (mw kx.toNatClampNeg)) / (sum_L mw wc.toNatClampNeg 0 0)) + 0) * (dn a.toNatClampNeg)) + (((up a.toNatClampNeg) * 1000) - ((up a.toNatClampNeg) * 1000) / (dn a.toNatClampNeg) * (dn a.toNatClampNeg))) (1000 * (dn a.toNatClampNeg)) (mu a.toNatClampNeg))) else (mk5 0 (f_M_make up dn mu am ((((((((up a.toNatClampNeg) * 1000) / (dn a.toNatClampNeg)) * (mw kx.toNatClampNeg)) / (sum_L mw wc.toNatClampNeg 0 0)) + 0) * (dn a.toNatClampNeg)) + 0) (1000 * (dn a.toNatClampNeg)) (mu a.toNatClampNeg))) else if kx = 0 then (mk5 0 (f_M_make up dn mu am ((((((((up a.toNatClampNeg) * 1000) / (dn a.toNatClampNeg)) * (mw kx.toNatClampNeg)) / (sum_L mw wc.toNatClampNeg 0 0)) + 1) * (dn a.toNatClampNeg)) + (((up a.toNatClampNeg) * 1000) - ((up a.toNatClampNeg) * 1000) / (dn a.toNatClampNeg) * (dn a.toNatClampNeg))) (1000 * (dn a.toNatClampNeg)) (mu a.toNatClampNeg))) else (mk5 0 (f_M_make up dn mu am ((((((((up a.toNatClampNeg) * 1000) / (dn a.toNatClampNeg)) * (mw kx.toNatClampNeg)) / (sum_L mw wc.toNatClampNeg 0 0)) + 1) * (dn a.toNatClampNeg)) + 0) (1000 * (dn a.toNatClampNeg)) (mu a.toNatClampNeg))) else ((-3), (0, up, dn, mu, am))
set_option maxHeartbeats 4000000 in
set_option maxRecDepth 100000 in
theorem k_M_share (l : Launch) (dC : Nat → ClassId) (dI : Nat → Nat → Nat) (cJ cI cT : ClassId) (g m1 m2 m3 m4 m5 m6 m7 m8 : Nat) (cd am wc : Int32) (up dn : Nat → Int64) (mu : Nat → Int32) (mw : Nat → Int64) (a : Int32) (kx : Int32) (sz : Nat) (ha0 : 0 ≤ am.toInt) (ha : am.toInt ≤ (500 : Nat)) (hw0 : 0 ≤ wc.toInt) (hw : wc.toInt ≤ (16 : Nat)) (hd : ¬ f_M_isAmount a am = 0 → ¬ dn a.toNatClampNeg = 0) (hq : ¬ f_M_isAmount a am = 0 → ¬ 1000 * dn a.toNatClampNeg = 0) : Met l y_M_share w_M_share ({ frames := 2, cells := 0, slots := 0, locals := 60 }) (va_Pc [.ref g, .int a, .int kx] (wx dC dI cJ cI cT sz [(g, .inr (2, [.int cd, .int am, .ref m1, .ref m2, .ref m3, .ref m4, .ref m5, .ref m6, .ref m7, .int wc, .ref m8])), (m1, .inl (cJ, 500, .inr (.inl up))), (m2, .inl (cJ, 500, .inr (.inl dn))), (m3, .inl (cI, 500, .inl mu)), (m8, .inl (cJ, 16, .inr (.inl mw)))])) (va_Qi (fun (r9 : Int32) (u9 : Int32 × (Nat → Int64) × (Nat → Int64) × (Nat → Int32) × Int32) => (r9, u9) = f_M_share up dn mu am mw wc a kx) (fun u => wb dC dI cJ cI cT (va_A [(g, .inr (2, [.int cd, .int am, .ref m1, .ref m2, .ref m3, .ref m4, .ref m5, .ref m6, .ref m7, .int wc, .ref m8])), (m1, .inl (cJ, 500, .inr (.inl up))), (m2, .inl (cJ, 500, .inr (.inl dn))), (m3, .inl (cI, 500, .inl mu)), (m8, .inl (cJ, 16, .inr (.inl mw)))] sz) [(g, .inr (2, [.int u.1, .int u.2.2.2.2, .ref m1, .ref m2, .ref m3, .ref m4, .ref m5, .ref m6, .ref m7, .int wc, .ref m8])), (m1, .inl (cJ, 500, .inr (.inl u.2.1))), (m2, .inl (cJ, 500, .inr (.inl u.2.2.1))), (m3, .inl (cI, 500, .inl u.2.2.2.1)), (m8, .inl (cJ, 16, .inr (.inl mw)))]) (va_A [(g, .inr (2, [.int cd, .int am, .ref m1, .ref m2, .ref m3, .ref m4, .ref m5, .ref m6, .ref m7, .int wc, .ref m8])), (m1, .inl (cJ, 500, .inr (.inl up))), (m2, .inl (cJ, 500, .inr (.inl dn))), (m3, .inl (cI, 500, .inl mu)), (m8, .inl (cJ, 16, .inr (.inl mw)))] sz)) 0 0 (va_A [(g, .inr (2, [.int cd, .int am, .ref m1, .ref m2, .ref m3, .ref m4, .ref m5, .ref m6, .ref m7, .int wc, .ref m8])), (m1, .inl (cJ, 500, .inr (.inl up))), (m2, .inl (cJ, 500, .inr (.inl dn))), (m3, .inl (cI, 500, .inl mu)), (m8, .inl (cJ, 16, .inr (.inl mw)))] sz) := by
  refine Met.ofW (cc := c_M_share) (maxL := 17) (ret := (Option.some Jvm.ClassFile.FieldType.int)) (by decide) rfl ?_
  intro p e s m args below meth c s₁ B hml hv
  obtain ⟨rfl, hsz, hP, hK, hD0⟩ := hv
  have hx := B.exec
  have hb := B.bytes
  have hr := B.returns
  have hts := atoms_spec (ws := w_M_share) B.pre
  have hg : ∀ w ∈ WG, w.before _ s = true := fun w h => hts w (List.mem_cons_of_mem _ h)
  have hown : s.vm.findClass R_M = some m.cls := findClass_of_methodNamed B.named
  have hlocks := B.notSynchronized
  have hl := lv_entry ([.ref g, .int a, .int kx]) (n := 17) (Nat.le_of_ble_eq_true rfl)
  rw [lg_entry_eq]
  generalize (lg_sl ([.ref g, .int a, .int kx]) ++ List.replicate (17 - (lg_sl ([.ref g, .int a, .int kx])).length) Slot.unset).toArray = ls at hl ⊢
  have hl : lv_has ls 17 [(0, .ref g), (1, .int a), (2, .int kx)] := hl
  subst hsz
  have hD := hD0.self (sz := s.heap.size)
  generalize hAe : va_A [(g, .inr (2, [.int cd, .int am, .ref m1, .ref m2, .ref m3, .ref m4, .ref m5, .ref m6, .ref m7, .int wc, .ref m8])), (m1, .inl (cJ, 500, .inr (.inl up))), (m2, .inl (cJ, 500, .inr (.inl dn))), (m3, .inl (cI, 500, .inl mu)), (m8, .inl (cJ, 16, .inr (.inl mw)))] s.heap.size = A at hD ⊢
  have hA : ∀ q : Nat, s.heap.size ≤ q → A q := fun q h => by rw [← hAe]; exact Or.inr h
  have hS : va_S A s.heap s.heap [] := va_S.rf
  have hP : va_P (dC, dI) classes [(g, .inr (2, [.int cd, .int am, .ref m1, .ref m2, .ref m3, .ref m4, .ref m5, .ref m6, .ref m7, .int wc, .ref m8])), (m1, .inl (cJ, 500, .inr (.inl up))), (m2, .inl (cJ, 500, .inr (.inl dn))), (m3, .inl (cI, 500, .inl mu)), (m8, .inl (cJ, 16, .inr (.inl mw)))] s.heap := hP
  have hD : va_D A [(g, .inr (2, [.int cd, .int am, .ref m1, .ref m2, .ref m3, .ref m4, .ref m5, .ref m6, .ref m7, .int wc, .ref m8])), (m1, .inl (cJ, 500, .inr (.inl up))), (m2, .inl (cJ, 500, .inr (.inl dn))), (m3, .inl (cI, 500, .inl mu)), (m8, .inl (cJ, 16, .inr (.inl mw)))] := hD
  skip
  refine lv_aload_n hx hb d_M_share_0 rfl (lv_at hl 0 rfl) ?_
  refine lv_iconst (v := 0) hx hb d_M_share_1 (by decide) ?_
  refine va_put (D := (dC, dI)) (ci := 2) (v := .int 0) (ty := .int) (C := R_M) (T := F_M) (N := 11) hx hb hg in_M tt_M tt_M_ok nn_M hown hK hP hD hS 0 rfl rfl 0 (by decide) (hg _ wg_266) (fun _ h9 => h9) rfl (by decide +kernel) rfl rfl (Nat.le_of_ble_eq_true rfl) d_M_share_2 (fun H locs hP hD hS => ?_)
  have hP : va_P (dC, dI) classes [(g, .inr (2, [.int 0, .int am, .ref m1, .ref m2, .ref m3, .ref m4, .ref m5, .ref m6, .ref m7, .int wc, .ref m8])), (m1, .inl (cJ, 500, .inr (.inl up))), (m2, .inl (cJ, 500, .inr (.inl dn))), (m3, .inl (cI, 500, .inl mu)), (m8, .inl (cJ, 16, .inr (.inl mw)))] H := hP
  have hD : va_D A [(g, .inr (2, [.int 0, .int am, .ref m1, .ref m2, .ref m3, .ref m4, .ref m5, .ref m6, .ref m7, .int wc, .ref m8])), (m1, .inl (cJ, 500, .inr (.inl up))), (m2, .inl (cJ, 500, .inr (.inl dn))), (m3, .inl (cI, 500, .inl mu)), (m8, .inl (cJ, 16, .inr (.inl mw)))] := hD
  refine lv_aload_n hx hb d_M_share_5 rfl (lv_at hl 0 rfl) ?_
  refine lv_iload_n hx hb d_M_share_6 rfl (lv_at hl 1 rfl) ?_
  have hPc := hP.sub (ws' := [(g, .inr (2, [.int 0, .int am, .ref m1, .ref m2, .ref m3, .ref m4, .ref m5, .ref m6, .ref m7, .int wc, .ref m8]))]) [0] rfl
  refine W.callV (W.runV (As := [.int a]) (rest := []) ⟨hx, hb, hml, hown, hg⟩ (k_M_isAmount l dC dI cJ cI cT g m1 m2 m3 m4 m5 m6 m7 m8 0 am wc a) (q_V 1 hg wg_312 wg_310 wg_311 wg_11 wg_15 rfl rfl (by decide +kernel) ⟨Nat.le_of_ble_eq_true rfl, Nat.le_of_ble_eq_true rfl⟩) ⟨wd_blind, va_recv hK hPc (ci := 2) (q0 := 0) rfl rfl, wd_pre (as := .ref g :: [.int a]) hPc hK⟩ rfl rfl hl.1 rfl (lv_room (Nat.le_of_ble_eq_true rfl)) d_M_share_7 ⟨Nat.le_of_ble_eq_true rfl, Nat.le_of_ble_eq_true rfl⟩) ?_
  refine W.eq (g2 := F0 m 10 ls (.int (f_M_isAmount a am) :: [])) rfl ?_
  refine lv_if_eq (tgt := 25) hx hb d_M_share_10 (by decide) (fun c_1 => ?_) (fun c_1 => ?_)
  · skip
    refine lv_bipush (v := (-3)) hx hb d_M_share_25 (by decide) ?_
    have hP9 := hP.sub (ws' := [(g, .inr (2, [.int 0, .int am, .ref m1, .ref m2, .ref m3, .ref m4, .ref m5, .ref m6, .ref m7, .int wc, .ref m8])), (m1, .inl (cJ, 500, .inr (.inl up))), (m2, .inl (cJ, 500, .inr (.inl dn))), (m3, .inl (cI, 500, .inl mu)), (m8, .inl (cJ, 16, .inr (.inl mw)))]) [0, 1, 2, 3, 4] rfl
    have hD9 := hD.sub (ws' := [(g, .inr (2, [.int 0, .int am, .ref m1, .ref m2, .ref m3, .ref m4, .ref m5, .ref m6, .ref m7, .int wc, .ref m8])), (m1, .inl (cJ, 500, .inr (.inl up))), (m2, .inl (cJ, 500, .inr (.inl dn))), (m3, .inl (cI, 500, .inl mu)), (m8, .inl (cJ, 16, .inr (.inl mw)))]) [0, 1, 2, 3, 4] (by decide) rfl
    have hz : ((-3), (0, up, dn, mu, am)) = f_M_share up dn mu am mw wc a kx := by unfold f_M_share; rw [if_pos c_1]
    exact W.iret (v := (-3)) hx hb hr (fun t ht hW => ⟨⟨(-3), (0, up, dn, mu, am), rfl, hz, wb_of ht hW hP9 hK hD9⟩, hS.F ht⟩) hS.2.2 d_M_share_27
  · skip
    refine lv_iload_n hx hb d_M_share_13 rfl (lv_at hl 2 rfl) ?_
    refine lv_if_lt (tgt := 25) hx hb d_M_share_14 (by decide) (fun c_2 => ?_) (fun c_2 => ?_)
    · skip
      refine lv_bipush (v := (-3)) hx hb d_M_share_25 (by decide) ?_
      have hP9 := hP.sub (ws' := [(g, .inr (2, [.int 0, .int am, .ref m1, .ref m2, .ref m3, .ref m4, .ref m5, .ref m6, .ref m7, .int wc, .ref m8])), (m1, .inl (cJ, 500, .inr (.inl up))), (m2, .inl (cJ, 500, .inr (.inl dn))), (m3, .inl (cI, 500, .inl mu)), (m8, .inl (cJ, 16, .inr (.inl mw)))]) [0, 1, 2, 3, 4] rfl
      have hD9 := hD.sub (ws' := [(g, .inr (2, [.int 0, .int am, .ref m1, .ref m2, .ref m3, .ref m4, .ref m5, .ref m6, .ref m7, .int wc, .ref m8])), (m1, .inl (cJ, 500, .inr (.inl up))), (m2, .inl (cJ, 500, .inr (.inl dn))), (m3, .inl (cI, 500, .inl mu)), (m8, .inl (cJ, 16, .inr (.inl mw)))]) [0, 1, 2, 3, 4] (by decide) rfl
      have hz : ((-3), (0, up, dn, mu, am)) = f_M_share up dn mu am mw wc a kx := by unfold f_M_share; rw [if_neg c_1, if_pos c_2]
      exact W.iret (v := (-3)) hx hb hr (fun t ht hW => ⟨⟨(-3), (0, up, dn, mu, am), rfl, hz, wb_of ht hW hP9 hK hD9⟩, hS.F ht⟩) hS.2.2 d_M_share_27
    · skip
      refine lv_iload_n hx hb d_M_share_17 rfl (lv_at hl 2 rfl) ?_
      refine lv_aload_n hx hb d_M_share_18 rfl (lv_at hl 0 rfl) ?_
      refine va_get (D := (dC, dI)) (ci := 2) (v := .int wc) (C := R_M) (T := F_M) (N := 11) hx hb hg in_M hown hK hP 0 rfl rfl 9 (by decide) (hg _ wg_275) (fun _ h9 => h9) rfl d_M_share_19 ?_
      refine lv_icmp_lt (tgt := 28) hx hb d_M_share_22 (by decide) (fun c_3 => ?_) (fun c_3 => ?_)
      · skip
        refine lv_lconst (v := 0) hx hb d_M_share_28 (by decide) ?_
        refine lv_lstore_n (lv' := [(3, .long 0), (0, .ref g), (1, .int a), (2, .int kx)]) hx hb d_M_share_29 rfl hl (by decide) rfl (fun ls hl => ?_)
        refine lv_iconst (v := 0) hx hb d_M_share_30 (by decide) ?_
        refine lv_istore (lv' := [(5, .int 0), (3, .long 0), (0, .ref g), (1, .int a), (2, .int kx)]) hx hb d_M_share_31 hl (by decide) rfl (fun ls hl => ?_)
        obtain ⟨q, hq9, eq9⟩ := nI_of (x := wc) (fun hh => by rw [Int32.lt_iff_toInt_lt] at hh; have e0 : (0 : Int32).toInt = 0 := rfl; omega)
        have eq2 : wc.toNatClampNeg = q := by rw [eq9]; exact nI_clamp hq9
        have eq3 : wc.toInt = q := by rw [eq9]; exact nI_toInt hq9
        have eq4 : wc = nI (0 + q) := by rw [Nat.zero_add]; exact eq9
        refine lp_M_share1 (cd := 0) (am := am) (mw := mw) (g := g) (m1 := m1) (m2 := m2) (m3 := m3) (m4 := m4) (m5 := m5) (m6 := m6) (m7 := m7) (m8 := m8) hx hb hg hown hK q 0 _ ls (by rw [← eq4]; exact hP.sub [0, 4] rfl) (by omega) (lv_sub hl [2, 3, 4, 1, 0] rfl) (fun ls hl => ?_)
        rw [← eq2] at hl
        refine lv_aload_n hx hb d_M_share_58 rfl (lv_at hl 0 rfl) ?_
        refine va_get (D := (dC, dI)) (ci := 2) (v := .ref m1) (C := R_M) (T := F_M) (N := 11) hx hb hg in_M hown hK hP 0 rfl rfl 2 (by decide) (hg _ wg_268) (fun _ h9 => h9) rfl d_M_share_59 ?_
        refine lv_iload_n hx hb d_M_share_62 rfl (lv_at hl 1 rfl) ?_
        refine va_lald hx hb hK hP 1 0 rfl rfl (mam_in c_1 ha) d_M_share_63 ?_
        refine lv_lconst (v := 0) hx hb d_M_share_64 (by decide) ?_
        refine W.lcmp hx hb d_M_share_65 ?_
        refine lv_if_lt (tgt := 75) hx hb d_M_share_66 (by decide) (fun c_4 => ?_) (fun c_4 => ?_)
        · skip
          rw [lg_cmp_lt] at c_4
          refine lv_iconst (v := (-1)) hx hb d_M_share_75 (by decide) ?_
          have hP9 := hP.sub (ws' := [(g, .inr (2, [.int 0, .int am, .ref m1, .ref m2, .ref m3, .ref m4, .ref m5, .ref m6, .ref m7, .int wc, .ref m8])), (m1, .inl (cJ, 500, .inr (.inl up))), (m2, .inl (cJ, 500, .inr (.inl dn))), (m3, .inl (cI, 500, .inl mu)), (m8, .inl (cJ, 16, .inr (.inl mw)))]) [0, 1, 2, 3, 4] rfl
          have hD9 := hD.sub (ws' := [(g, .inr (2, [.int 0, .int am, .ref m1, .ref m2, .ref m3, .ref m4, .ref m5, .ref m6, .ref m7, .int wc, .ref m8])), (m1, .inl (cJ, 500, .inr (.inl up))), (m2, .inl (cJ, 500, .inr (.inl dn))), (m3, .inl (cI, 500, .inl mu)), (m8, .inl (cJ, 16, .inr (.inl mw)))]) [0, 1, 2, 3, 4] (by decide) rfl
          have hz : ((-1), (0, up, dn, mu, am)) = f_M_share up dn mu am mw wc a kx := by unfold f_M_share; rw [if_neg c_1, if_neg c_2, if_pos c_3, if_pos c_4]
          exact W.iret (v := (-1)) hx hb hr (fun t ht hW => ⟨⟨(-1), (0, up, dn, mu, am), rfl, hz, wb_of ht hW hP9 hK hD9⟩, hS.F ht⟩) hS.2.2 d_M_share_76
        · skip
          rw [lg_cmp_lt] at c_4
          refine lv_lload_n hx hb d_M_share_69 rfl (lv_at hl 3 rfl) ?_
          refine lv_lconst (v := 0) hx hb d_M_share_70 (by decide) ?_
          refine W.lcmp hx hb d_M_share_71 ?_
          refine lv_if_ne (tgt := 77) hx hb d_M_share_72 (by decide) (fun c_5 => ?_) (fun c_5 => ?_)
          · skip
            rw [lg_cmp_eq] at c_5
            refine lv_aload_n hx hb d_M_share_77 rfl (lv_at hl 0 rfl) ?_
            refine va_get (D := (dC, dI)) (ci := 2) (v := .ref m1) (C := R_M) (T := F_M) (N := 11) hx hb hg in_M hown hK hP 0 rfl rfl 2 (by decide) (hg _ wg_268) (fun _ h9 => h9) rfl d_M_share_78 ?_
            refine lv_iload_n hx hb d_M_share_81 rfl (lv_at hl 1 rfl) ?_
            refine va_lald hx hb hK hP 1 0 rfl rfl (mam_in c_1 ha) d_M_share_82 ?_
            refine lv_ldc2 (v := 1000) hx hb hown (hg _ wg_360) d_M_share_83 ?_
            refine lv_lmul hx hb d_M_share_86 ?_
            refine lv_aload_n hx hb d_M_share_87 rfl (lv_at hl 0 rfl) ?_
            refine va_get (D := (dC, dI)) (ci := 2) (v := .ref m2) (C := R_M) (T := F_M) (N := 11) hx hb hg in_M hown hK hP 0 rfl rfl 3 (by decide) (hg _ wg_269) (fun _ h9 => h9) rfl d_M_share_88 ?_
            refine lv_iload_n hx hb d_M_share_91 rfl (lv_at hl 1 rfl) ?_
            refine va_lald hx hb hK hP 2 0 rfl rfl (mam_in c_1 ha) d_M_share_92 ?_
            refine lv_ldiv hx hb d_M_share_93 (hd c_1) ?_
            refine lv_topl (fun v_6 ev_6 => ?_)
            refine lv_lstore (lv' := [(5, .long v_6), (0, .ref g), (1, .int a), (2, .int kx), (3, .long (sum_L mw wc.toNatClampNeg 0 0))]) hx hb d_M_share_94 hl (by decide) rfl (fun ls hl => ?_)
            refine lv_lload hx hb d_M_share_96 (lv_at hl 0 rfl) ?_
            refine lv_lstore (lv' := [(7, .long v_6), (5, .long v_6), (0, .ref g), (1, .int a), (2, .int kx), (3, .long (sum_L mw wc.toNatClampNeg 0 0))]) hx hb d_M_share_98 hl (by decide) rfl (fun ls hl => ?_)
            refine lv_lconst (v := 0) hx hb d_M_share_100 (by decide) ?_
            refine lv_lstore (lv' := [(9, .long 0), (7, .long v_6), (5, .long v_6), (0, .ref g), (1, .int a), (2, .int kx), (3, .long (sum_L mw wc.toNatClampNeg 0 0))]) hx hb d_M_share_101 hl (by decide) rfl (fun ls hl => ?_)
            refine lv_lload hx hb d_M_share_103 (lv_at hl 2 rfl) ?_
            refine lv_aload_n hx hb d_M_share_105 rfl (lv_at hl 3 rfl) ?_
            refine va_get (D := (dC, dI)) (ci := 2) (v := .ref m8) (C := R_M) (T := F_M) (N := 11) hx hb hg in_M hown hK hP 0 rfl rfl 10 (by decide) (hg _ wg_276) (fun _ h9 => h9) rfl d_M_share_106 ?_
            refine lv_iload_n hx hb d_M_share_109 rfl (lv_at hl 5 rfl) ?_
            refine va_lald hx hb hK hP 4 0 rfl rfl (in_lt c_2 c_3 hw) d_M_share_110 ?_
            refine lv_lmul hx hb d_M_share_111 ?_
            refine lv_lload_n hx hb d_M_share_112 rfl (lv_at hl 6 rfl) ?_
            refine lv_lrem hx hb d_M_share_113 c_5 ?_
            refine lv_topl (fun v_7 ev_7 => ?_)
            refine lv_lstore (lv' := [(11, .long v_7), (9, .long 0), (7, .long v_6), (5, .long v_6), (0, .ref g), (1, .int a), (2, .int kx), (3, .long (sum_L mw wc.toNatClampNeg 0 0))]) hx hb d_M_share_114 hl (by decide) rfl (fun ls hl => ?_)
            refine lv_iconst (v := 0) hx hb d_M_share_116 (by decide) ?_
            refine lv_istore (lv' := [(13, .int 0), (11, .long v_7), (9, .long 0), (7, .long v_6), (5, .long v_6), (0, .ref g), (1, .int a), (2, .int kx), (3, .long (sum_L mw wc.toNatClampNeg 0 0))]) hx hb d_M_share_117 hl (by decide) rfl (fun ls hl => ?_)
            subst ev_7
            subst ev_6
            refine lp_M_share2 (cd := 0) (am := am) (mw := mw) (t := (((up a.toNatClampNeg) * 1000) / (dn a.toNatClampNeg))) (ow := (((((up a.toNatClampNeg) * 1000) / (dn a.toNatClampNeg)) * (mw kx.toNatClampNeg)) - ((((up a.toNatClampNeg) * 1000) / (dn a.toNatClampNeg)) * (mw kx.toNatClampNeg)) / (sum_L mw wc.toNatClampNeg 0 0) * (sum_L mw wc.toNatClampNeg 0 0))) (g := g) (m1 := m1) (m2 := m2) (m3 := m3) (m4 := m4) (m5 := m5) (m6 := m6) (m7 := m7) (m8 := m8) hx hb hg hown c_5 hK q 0 _ _ ls (by rw [← eq4]; exact hP.sub [0, 4] rfl) (by omega) (lv_sub hl [5, 6, 7, 8, 4, 3, 2, 1, 0] rfl) (fun ls hl => ?_)
            rw [← eq2] at hl
            refine lv_lload hx hb d_M_share_197 (lv_at hl 4 rfl) ?_
            refine lv_aload_n hx hb d_M_share_199 rfl (lv_at hl 0 rfl) ?_
            refine va_get (D := (dC, dI)) (ci := 2) (v := .ref m8) (C := R_M) (T := F_M) (N := 11) hx hb hg in_M hown hK hP 0 rfl rfl 10 (by decide) (hg _ wg_276) (fun _ h9 => h9) rfl d_M_share_200 ?_
            refine lv_iload_n hx hb d_M_share_203 rfl (lv_at hl 2 rfl) ?_
            refine va_lald hx hb hK hP 4 0 rfl rfl (in_lt c_2 c_3 hw) d_M_share_204 ?_
            refine lv_lmul hx hb d_M_share_205 ?_
            refine lv_lload_n hx hb d_M_share_206 rfl (lv_at hl 3 rfl) ?_
            refine lv_ldiv hx hb d_M_share_207 c_5 ?_
            refine lv_lload hx hb d_M_share_208 (lv_at hl 6 rfl) ?_
            refine lv_lload hx hb d_M_share_210 (lv_at hl 5 rfl) ?_
            refine W.lcmp hx hb d_M_share_212 ?_
            refine lv_if_ge (tgt := 220) hx hb d_M_share_213 (by decide) (fun c_8 => ?_) (fun c_8 => ?_)
            · skip
              rw [lg_cmp_ge] at c_8
              refine lv_lconst (v := 0) hx hb d_M_share_220 (by decide) ?_
              refine lv_ladd hx hb d_M_share_221 ?_
              refine lv_topl (fun v_9 ev_9 => ?_)
              refine lv_lstore (lv' := [(13, .long v_9), (0, .ref g), (1, .int a), (2, .int kx), (3, .long (sum_L mw wc.toNatClampNeg 0 0)), (5, .long (((up a.toNatClampNeg) * 1000) / (dn a.toNatClampNeg))), (7, .long ((ts_L mw (((up a.toNatClampNeg) * 1000) / (dn a.toNatClampNeg)) (sum_L mw wc.toNatClampNeg 0 0) (((((up a.toNatClampNeg) * 1000) / (dn a.toNatClampNeg)) * (mw kx.toNatClampNeg)) - ((((up a.toNatClampNeg) * 1000) / (dn a.toNatClampNeg)) * (mw kx.toNatClampNeg)) / (sum_L mw wc.toNatClampNeg 0 0) * (sum_L mw wc.toNatClampNeg 0 0)) kx wc.toNatClampNeg 0 (((up a.toNatClampNeg) * 1000) / (dn a.toNatClampNeg)) 0).1)), (9, .long ((ts_L mw (((up a.toNatClampNeg) * 1000) / (dn a.toNatClampNeg)) (sum_L mw wc.toNatClampNeg 0 0) (((((up a.toNatClampNeg) * 1000) / (dn a.toNatClampNeg)) * (mw kx.toNatClampNeg)) - ((((up a.toNatClampNeg) * 1000) / (dn a.toNatClampNeg)) * (mw kx.toNatClampNeg)) / (sum_L mw wc.toNatClampNeg 0 0) * (sum_L mw wc.toNatClampNeg 0 0)) kx wc.toNatClampNeg 0 (((up a.toNatClampNeg) * 1000) / (dn a.toNatClampNeg)) 0).2))]) hx hb d_M_share_222 hl (by decide) rfl (fun ls hl => ?_)
              refine lv_iload_n hx hb d_M_share_224 rfl (lv_at hl 3 rfl) ?_
              refine lv_if_ne (tgt := 248) hx hb d_M_share_225 (by decide) (fun c_10 => ?_) (fun c_10 => ?_)
              · skip
                refine lv_lconst (v := 0) hx hb d_M_share_248 (by decide) ?_
                refine lv_lstore (lv' := [(15, .long 0), (13, .long v_9), (0, .ref g), (1, .int a), (2, .int kx), (3, .long (sum_L mw wc.toNatClampNeg 0 0)), (5, .long (((up a.toNatClampNeg) * 1000) / (dn a.toNatClampNeg))), (7, .long ((ts_L mw (((up a.toNatClampNeg) * 1000) / (dn a.toNatClampNeg)) (sum_L mw wc.toNatClampNeg 0 0) (((((up a.toNatClampNeg) * 1000) / (dn a.toNatClampNeg)) * (mw kx.toNatClampNeg)) - ((((up a.toNatClampNeg) * 1000) / (dn a.toNatClampNeg)) * (mw kx.toNatClampNeg)) / (sum_L mw wc.toNatClampNeg 0 0) * (sum_L mw wc.toNatClampNeg 0 0)) kx wc.toNatClampNeg 0 (((up a.toNatClampNeg) * 1000) / (dn a.toNatClampNeg)) 0).1)), (9, .long ((ts_L mw (((up a.toNatClampNeg) * 1000) / (dn a.toNatClampNeg)) (sum_L mw wc.toNatClampNeg 0 0) (((((up a.toNatClampNeg) * 1000) / (dn a.toNatClampNeg)) * (mw kx.toNatClampNeg)) - ((((up a.toNatClampNeg) * 1000) / (dn a.toNatClampNeg)) * (mw kx.toNatClampNeg)) / (sum_L mw wc.toNatClampNeg 0 0) * (sum_L mw wc.toNatClampNeg 0 0)) kx wc.toNatClampNeg 0 (((up a.toNatClampNeg) * 1000) / (dn a.toNatClampNeg)) 0).2))]) hx hb d_M_share_249 hl (by decide) rfl (fun ls hl => ?_)
                refine lv_aload_n hx hb d_M_share_251 rfl (lv_at hl 2 rfl) ?_
                refine lv_lload hx hb d_M_share_252 (lv_at hl 1 rfl) ?_
                refine lv_aload_n hx hb d_M_share_254 rfl (lv_at hl 2 rfl) ?_
                refine va_get (D := (dC, dI)) (ci := 2) (v := .ref m2) (C := R_M) (T := F_M) (N := 11) hx hb hg in_M hown hK hP 0 rfl rfl 3 (by decide) (hg _ wg_269) (fun _ h9 => h9) rfl d_M_share_255 ?_
                refine lv_iload_n hx hb d_M_share_258 rfl (lv_at hl 3 rfl) ?_
                refine va_lald hx hb hK hP 2 0 rfl rfl (mam_in c_1 ha) d_M_share_259 ?_
                refine lv_lmul hx hb d_M_share_260 ?_
                refine lv_lload hx hb d_M_share_261 (lv_at hl 0 rfl) ?_
                refine lv_ladd hx hb d_M_share_263 ?_
                refine lv_ldc2 (v := 1000) hx hb hown (hg _ wg_360) d_M_share_264 ?_
                refine lv_aload_n hx hb d_M_share_267 rfl (lv_at hl 2 rfl) ?_
                refine va_get (D := (dC, dI)) (ci := 2) (v := .ref m2) (C := R_M) (T := F_M) (N := 11) hx hb hg in_M hown hK hP 0 rfl rfl 3 (by decide) (hg _ wg_269) (fun _ h9 => h9) rfl d_M_share_268 ?_
                refine lv_iload_n hx hb d_M_share_271 rfl (lv_at hl 3 rfl) ?_
                refine va_lald hx hb hK hP 2 0 rfl rfl (mam_in c_1 ha) d_M_share_272 ?_
                refine lv_lmul hx hb d_M_share_273 ?_
                refine lv_aload_n hx hb d_M_share_274 rfl (lv_at hl 2 rfl) ?_
                refine va_get (D := (dC, dI)) (ci := 2) (v := .ref m3) (C := R_M) (T := F_M) (N := 11) hx hb hg in_M hown hK hP 0 rfl rfl 4 (by decide) (hg _ wg_270) (fun _ h9 => h9) rfl d_M_share_275 ?_
                refine lv_iload_n hx hb d_M_share_278 rfl (lv_at hl 3 rfl) ?_
                refine va_iald hx hb hK hP 3 1 rfl rfl (mam_in c_1 ha) d_M_share_279 ?_
                have hPc := hP.sub (ws' := [(g, .inr (2, [.int 0, .int am, .ref m1, .ref m2, .ref m3, .ref m4, .ref m5, .ref m6, .ref m7, .int wc, .ref m8])), (m1, .inl (cJ, 500, .inr (.inl up))), (m2, .inl (cJ, 500, .inr (.inl dn))), (m3, .inl (cI, 500, .inl mu))]) [0, 1, 2, 3] rfl
                have hDc := hD.sub (ws' := [(g, .inr (2, [.int 0, .int am, .ref m1, .ref m2, .ref m3, .ref m4, .ref m5, .ref m6, .ref m7, .int wc, .ref m8])), (m1, .inl (cJ, 500, .inr (.inl up))), (m2, .inl (cJ, 500, .inr (.inl dn))), (m3, .inl (cI, 500, .inl mu))]) [0, 1, 2, 3] (by decide) rfl
                have hFc := va_free (wc := [(g, .inr (2, [.int 0, .int am, .ref m1, .ref m2, .ref m3, .ref m4, .ref m5, .ref m6, .ref m7, .int wc, .ref m8])), (m1, .inl (cJ, 500, .inr (.inl up))), (m2, .inl (cJ, 500, .inr (.inl dn))), (m3, .inl (cI, 500, .inl mu))]) hD hS hA [0, 1, 2, 3] rfl
                refine va_calli (va_runV (As := [.long ((v_9 * (dn a.toNatClampNeg)) + 0), .long (1000 * (dn a.toNatClampNeg)), .int (mu a.toNatClampNeg)]) (rest := []) ⟨hx, hb, hml, hown, hg⟩ (k_M_make l dC dI cJ cI cT g m1 m2 m3 m4 m5 m6 m7 m8 0 am wc up dn mu ((v_9 * (dn a.toNatClampNeg)) + 0) (1000 * (dn a.toNatClampNeg)) (mu a.toNatClampNeg) _ ha0 ha (hq c_1)) (q_V 3 hg wg_300 wg_298 wg_299 wg_10 wg_15 rfl rfl (by decide +kernel) ⟨Nat.le_of_ble_eq_true rfl, Nat.le_of_ble_eq_true rfl⟩) ⟨wx_blind, va_recv hK hPc (ci := 2) (q0 := 0) rfl rfl, wx_pre (as := .ref g :: [.long ((v_9 * (dn a.toNatClampNeg)) + 0), .long (1000 * (dn a.toNatClampNeg)), .int (mu a.toNatClampNeg)]) hPc hK hDc⟩ rfl rfl hl.1 rfl (lv_room (Nat.le_of_ble_eq_true rfl)) d_M_share_280 ⟨Nat.le_of_ble_eq_true rfl, Nat.le_of_ble_eq_true rfl⟩) hS (fun q _ h => hFc q h) hFc (fun r_15 u t H1 locs ht hvm hw_16 hB hz1 hk1 hS => ?_)
                obtain ⟨up_11, dn_12, mu_13, am_14⟩ := u
                obtain ⟨hP1, hK1, hD1⟩ := hB
                rw [ht] at hP1
                obtain ⟨hP, hD⟩ := va_join (wr := [(m8, .inl (cJ, 16, .inr (.inl mw)))]) (w1 := [(g, .inr (2, [.int 0, .int am_14, .ref m1, .ref m2, .ref m3, .ref m4, .ref m5, .ref m6, .ref m7, .int wc, .ref m8])), (m1, .inl (cJ, 500, .inr (.inl up_11))), (m2, .inl (cJ, 500, .inr (.inl dn_12))), (m3, .inl (cI, 500, .inl mu_13))]) hP hD [0, 1, 2, 3] [4] rfl rfl (by decide) (by decide) hk1 hFc hP1 hD1
                generalize H1 = H at hP hS ⊢
                have hP : va_P (dC, dI) classes [(m8, .inl (cJ, 16, .inr (.inl mw))), (g, .inr (2, [.int 0, .int am_14, .ref m1, .ref m2, .ref m3, .ref m4, .ref m5, .ref m6, .ref m7, .int wc, .ref m8])), (m1, .inl (cJ, 500, .inr (.inl up_11))), (m2, .inl (cJ, 500, .inr (.inl dn_12))), (m3, .inl (cI, 500, .inl mu_13))] H := hP
                have hD : va_D A [(m8, .inl (cJ, 16, .inr (.inl mw))), (g, .inr (2, [.int 0, .int am_14, .ref m1, .ref m2, .ref m3, .ref m4, .ref m5, .ref m6, .ref m7, .int wc, .ref m8])), (m1, .inl (cJ, 500, .inr (.inl up_11))), (m2, .inl (cJ, 500, .inr (.inl dn_12))), (m3, .inl (cI, 500, .inl mu_13))] := hD
                subst ev_9
                have hP9 := hP.sub (ws' := [(g, .inr (2, [.int 0, .int am_14, .ref m1, .ref m2, .ref m3, .ref m4, .ref m5, .ref m6, .ref m7, .int wc, .ref m8])), (m1, .inl (cJ, 500, .inr (.inl up_11))), (m2, .inl (cJ, 500, .inr (.inl dn_12))), (m3, .inl (cI, 500, .inl mu_13)), (m8, .inl (cJ, 16, .inr (.inl mw)))]) [1, 2, 3, 4, 0] rfl
                have hD9 := hD.sub (ws' := [(g, .inr (2, [.int 0, .int am_14, .ref m1, .ref m2, .ref m3, .ref m4, .ref m5, .ref m6, .ref m7, .int wc, .ref m8])), (m1, .inl (cJ, 500, .inr (.inl up_11))), (m2, .inl (cJ, 500, .inr (.inl dn_12))), (m3, .inl (cI, 500, .inl mu_13)), (m8, .inl (cJ, 16, .inr (.inl mw)))]) [1, 2, 3, 4, 0] (by decide) rfl
                have hz : (r_15, (0, up_11, dn_12, mu_13, am_14)) = f_M_share up dn mu am mw wc a kx := by unfold f_M_share; rw [if_neg c_1, if_neg c_2, if_pos c_3, if_neg c_4, if_neg c_5, if_pos c_8, if_neg c_10]; exact congrArg (mk5 0) hw_16
                exact W.iret (v := r_15) hx hb hr (fun t ht hW => ⟨⟨r_15, (0, up_11, dn_12, mu_13, am_14), rfl, hz, wb_of ht hW hP9 hK hD9⟩, hS.F ht⟩) hS.2.2 d_M_share_283
              · skip
                refine lv_aload_n hx hb d_M_share_228 rfl (lv_at hl 1 rfl) ?_
                refine va_get (D := (dC, dI)) (ci := 2) (v := .ref m1) (C := R_M) (T := F_M) (N := 11) hx hb hg in_M hown hK hP 0 rfl rfl 2 (by decide) (hg _ wg_268) (fun _ h9 => h9) rfl d_M_share_229 ?_
                refine lv_iload_n hx hb d_M_share_232 rfl (lv_at hl 2 rfl) ?_
                refine va_lald hx hb hK hP 1 0 rfl rfl (mam_in c_1 ha) d_M_share_233 ?_
                refine lv_ldc2 (v := 1000) hx hb hown (hg _ wg_360) d_M_share_234 ?_
                refine lv_lmul hx hb d_M_share_237 ?_
                refine lv_aload_n hx hb d_M_share_238 rfl (lv_at hl 1 rfl) ?_
                refine va_get (D := (dC, dI)) (ci := 2) (v := .ref m2) (C := R_M) (T := F_M) (N := 11) hx hb hg in_M hown hK hP 0 rfl rfl 3 (by decide) (hg _ wg_269) (fun _ h9 => h9) rfl d_M_share_239 ?_
                refine lv_iload_n hx hb d_M_share_242 rfl (lv_at hl 2 rfl) ?_
                refine va_lald hx hb hK hP 2 0 rfl rfl (mam_in c_1 ha) d_M_share_243 ?_
                refine lv_lrem hx hb d_M_share_244 (hd c_1) ?_
                refine lv_goto (tgt := 249) hx hb d_M_share_245 (by decide) ?_
                refine lv_topl (fun v_17 ev_17 => ?_)
                refine lv_lstore (lv' := [(15, .long v_17), (13, .long v_9), (0, .ref g), (1, .int a), (2, .int kx), (3, .long (sum_L mw wc.toNatClampNeg 0 0)), (5, .long (((up a.toNatClampNeg) * 1000) / (dn a.toNatClampNeg))), (7, .long ((ts_L mw (((up a.toNatClampNeg) * 1000) / (dn a.toNatClampNeg)) (sum_L mw wc.toNatClampNeg 0 0) (((((up a.toNatClampNeg) * 1000) / (dn a.toNatClampNeg)) * (mw kx.toNatClampNeg)) - ((((up a.toNatClampNeg) * 1000) / (dn a.toNatClampNeg)) * (mw kx.toNatClampNeg)) / (sum_L mw wc.toNatClampNeg 0 0) * (sum_L mw wc.toNatClampNeg 0 0)) kx wc.toNatClampNeg 0 (((up a.toNatClampNeg) * 1000) / (dn a.toNatClampNeg)) 0).1)), (9, .long ((ts_L mw (((up a.toNatClampNeg) * 1000) / (dn a.toNatClampNeg)) (sum_L mw wc.toNatClampNeg 0 0) (((((up a.toNatClampNeg) * 1000) / (dn a.toNatClampNeg)) * (mw kx.toNatClampNeg)) - ((((up a.toNatClampNeg) * 1000) / (dn a.toNatClampNeg)) * (mw kx.toNatClampNeg)) / (sum_L mw wc.toNatClampNeg 0 0) * (sum_L mw wc.toNatClampNeg 0 0)) kx wc.toNatClampNeg 0 (((up a.toNatClampNeg) * 1000) / (dn a.toNatClampNeg)) 0).2))]) hx hb d_M_share_249 hl (by decide) rfl (fun ls hl => ?_)
                refine lv_aload_n hx hb d_M_share_251 rfl (lv_at hl 2 rfl) ?_
                refine lv_lload hx hb d_M_share_252 (lv_at hl 1 rfl) ?_
                refine lv_aload_n hx hb d_M_share_254 rfl (lv_at hl 2 rfl) ?_
                refine va_get (D := (dC, dI)) (ci := 2) (v := .ref m2) (C := R_M) (T := F_M) (N := 11) hx hb hg in_M hown hK hP 0 rfl rfl 3 (by decide) (hg _ wg_269) (fun _ h9 => h9) rfl d_M_share_255 ?_
                refine lv_iload_n hx hb d_M_share_258 rfl (lv_at hl 3 rfl) ?_
                refine va_lald hx hb hK hP 2 0 rfl rfl (mam_in c_1 ha) d_M_share_259 ?_
                refine lv_lmul hx hb d_M_share_260 ?_
                refine lv_lload hx hb d_M_share_261 (lv_at hl 0 rfl) ?_
                refine lv_ladd hx hb d_M_share_263 ?_
                refine lv_ldc2 (v := 1000) hx hb hown (hg _ wg_360) d_M_share_264 ?_
                refine lv_aload_n hx hb d_M_share_267 rfl (lv_at hl 2 rfl) ?_
                refine va_get (D := (dC, dI)) (ci := 2) (v := .ref m2) (C := R_M) (T := F_M) (N := 11) hx hb hg in_M hown hK hP 0 rfl rfl 3 (by decide) (hg _ wg_269) (fun _ h9 => h9) rfl d_M_share_268 ?_
                refine lv_iload_n hx hb d_M_share_271 rfl (lv_at hl 3 rfl) ?_
                refine va_lald hx hb hK hP 2 0 rfl rfl (mam_in c_1 ha) d_M_share_272 ?_
                refine lv_lmul hx hb d_M_share_273 ?_
                refine lv_aload_n hx hb d_M_share_274 rfl (lv_at hl 2 rfl) ?_
                refine va_get (D := (dC, dI)) (ci := 2) (v := .ref m3) (C := R_M) (T := F_M) (N := 11) hx hb hg in_M hown hK hP 0 rfl rfl 4 (by decide) (hg _ wg_270) (fun _ h9 => h9) rfl d_M_share_275 ?_
                refine lv_iload_n hx hb d_M_share_278 rfl (lv_at hl 3 rfl) ?_
                refine va_iald hx hb hK hP 3 1 rfl rfl (mam_in c_1 ha) d_M_share_279 ?_
                have hPc := hP.sub (ws' := [(g, .inr (2, [.int 0, .int am, .ref m1, .ref m2, .ref m3, .ref m4, .ref m5, .ref m6, .ref m7, .int wc, .ref m8])), (m1, .inl (cJ, 500, .inr (.inl up))), (m2, .inl (cJ, 500, .inr (.inl dn))), (m3, .inl (cI, 500, .inl mu))]) [0, 1, 2, 3] rfl
                have hDc := hD.sub (ws' := [(g, .inr (2, [.int 0, .int am, .ref m1, .ref m2, .ref m3, .ref m4, .ref m5, .ref m6, .ref m7, .int wc, .ref m8])), (m1, .inl (cJ, 500, .inr (.inl up))), (m2, .inl (cJ, 500, .inr (.inl dn))), (m3, .inl (cI, 500, .inl mu))]) [0, 1, 2, 3] (by decide) rfl
                have hFc := va_free (wc := [(g, .inr (2, [.int 0, .int am, .ref m1, .ref m2, .ref m3, .ref m4, .ref m5, .ref m6, .ref m7, .int wc, .ref m8])), (m1, .inl (cJ, 500, .inr (.inl up))), (m2, .inl (cJ, 500, .inr (.inl dn))), (m3, .inl (cI, 500, .inl mu))]) hD hS hA [0, 1, 2, 3] rfl
                refine va_calli (va_runV (As := [.long ((v_9 * (dn a.toNatClampNeg)) + v_17), .long (1000 * (dn a.toNatClampNeg)), .int (mu a.toNatClampNeg)]) (rest := []) ⟨hx, hb, hml, hown, hg⟩ (k_M_make l dC dI cJ cI cT g m1 m2 m3 m4 m5 m6 m7 m8 0 am wc up dn mu ((v_9 * (dn a.toNatClampNeg)) + v_17) (1000 * (dn a.toNatClampNeg)) (mu a.toNatClampNeg) _ ha0 ha (hq c_1)) (q_V 3 hg wg_300 wg_298 wg_299 wg_10 wg_15 rfl rfl (by decide +kernel) ⟨Nat.le_of_ble_eq_true rfl, Nat.le_of_ble_eq_true rfl⟩) ⟨wx_blind, va_recv hK hPc (ci := 2) (q0 := 0) rfl rfl, wx_pre (as := .ref g :: [.long ((v_9 * (dn a.toNatClampNeg)) + v_17), .long (1000 * (dn a.toNatClampNeg)), .int (mu a.toNatClampNeg)]) hPc hK hDc⟩ rfl rfl hl.1 rfl (lv_room (Nat.le_of_ble_eq_true rfl)) d_M_share_280 ⟨Nat.le_of_ble_eq_true rfl, Nat.le_of_ble_eq_true rfl⟩) hS (fun q _ h => hFc q h) hFc (fun r_22 u t H1 locs ht hvm hw_23 hB hz1 hk1 hS => ?_)
                obtain ⟨up_18, dn_19, mu_20, am_21⟩ := u
                obtain ⟨hP1, hK1, hD1⟩ := hB
                rw [ht] at hP1
                obtain ⟨hP, hD⟩ := va_join (wr := [(m8, .inl (cJ, 16, .inr (.inl mw)))]) (w1 := [(g, .inr (2, [.int 0, .int am_21, .ref m1, .ref m2, .ref m3, .ref m4, .ref m5, .ref m6, .ref m7, .int wc, .ref m8])), (m1, .inl (cJ, 500, .inr (.inl up_18))), (m2, .inl (cJ, 500, .inr (.inl dn_19))), (m3, .inl (cI, 500, .inl mu_20))]) hP hD [0, 1, 2, 3] [4] rfl rfl (by decide) (by decide) hk1 hFc hP1 hD1
                generalize H1 = H at hP hS ⊢
                have hP : va_P (dC, dI) classes [(m8, .inl (cJ, 16, .inr (.inl mw))), (g, .inr (2, [.int 0, .int am_21, .ref m1, .ref m2, .ref m3, .ref m4, .ref m5, .ref m6, .ref m7, .int wc, .ref m8])), (m1, .inl (cJ, 500, .inr (.inl up_18))), (m2, .inl (cJ, 500, .inr (.inl dn_19))), (m3, .inl (cI, 500, .inl mu_20))] H := hP
                have hD : va_D A [(m8, .inl (cJ, 16, .inr (.inl mw))), (g, .inr (2, [.int 0, .int am_21, .ref m1, .ref m2, .ref m3, .ref m4, .ref m5, .ref m6, .ref m7, .int wc, .ref m8])), (m1, .inl (cJ, 500, .inr (.inl up_18))), (m2, .inl (cJ, 500, .inr (.inl dn_19))), (m3, .inl (cI, 500, .inl mu_20))] := hD
                subst ev_17
                subst ev_9
                have hP9 := hP.sub (ws' := [(g, .inr (2, [.int 0, .int am_21, .ref m1, .ref m2, .ref m3, .ref m4, .ref m5, .ref m6, .ref m7, .int wc, .ref m8])), (m1, .inl (cJ, 500, .inr (.inl up_18))), (m2, .inl (cJ, 500, .inr (.inl dn_19))), (m3, .inl (cI, 500, .inl mu_20)), (m8, .inl (cJ, 16, .inr (.inl mw)))]) [1, 2, 3, 4, 0] rfl
                have hD9 := hD.sub (ws' := [(g, .inr (2, [.int 0, .int am_21, .ref m1, .ref m2, .ref m3, .ref m4, .ref m5, .ref m6, .ref m7, .int wc, .ref m8])), (m1, .inl (cJ, 500, .inr (.inl up_18))), (m2, .inl (cJ, 500, .inr (.inl dn_19))), (m3, .inl (cI, 500, .inl mu_20)), (m8, .inl (cJ, 16, .inr (.inl mw)))]) [1, 2, 3, 4, 0] (by decide) rfl
                have hz : (r_22, (0, up_18, dn_19, mu_20, am_21)) = f_M_share up dn mu am mw wc a kx := by unfold f_M_share; rw [if_neg c_1, if_neg c_2, if_pos c_3, if_neg c_4, if_neg c_5, if_pos c_8, if_pos c_10]; exact congrArg (mk5 0) hw_23
                exact W.iret (v := r_22) hx hb hr (fun t ht hW => ⟨⟨r_22, (0, up_18, dn_19, mu_20, am_21), rfl, hz, wb_of ht hW hP9 hK hD9⟩, hS.F ht⟩) hS.2.2 d_M_share_283
            · skip
              rw [lg_cmp_ge] at c_8
              refine lv_lconst (v := 1) hx hb d_M_share_216 (by decide) ?_
              refine lv_goto (tgt := 221) hx hb d_M_share_217 (by decide) ?_
              refine lv_ladd hx hb d_M_share_221 ?_
              refine lv_topl (fun v_24 ev_24 => ?_)
              refine lv_lstore (lv' := [(13, .long v_24), (0, .ref g), (1, .int a), (2, .int kx), (3, .long (sum_L mw wc.toNatClampNeg 0 0)), (5, .long (((up a.toNatClampNeg) * 1000) / (dn a.toNatClampNeg))), (7, .long ((ts_L mw (((up a.toNatClampNeg) * 1000) / (dn a.toNatClampNeg)) (sum_L mw wc.toNatClampNeg 0 0) (((((up a.toNatClampNeg) * 1000) / (dn a.toNatClampNeg)) * (mw kx.toNatClampNeg)) - ((((up a.toNatClampNeg) * 1000) / (dn a.toNatClampNeg)) * (mw kx.toNatClampNeg)) / (sum_L mw wc.toNatClampNeg 0 0) * (sum_L mw wc.toNatClampNeg 0 0)) kx wc.toNatClampNeg 0 (((up a.toNatClampNeg) * 1000) / (dn a.toNatClampNeg)) 0).1)), (9, .long ((ts_L mw (((up a.toNatClampNeg) * 1000) / (dn a.toNatClampNeg)) (sum_L mw wc.toNatClampNeg 0 0) (((((up a.toNatClampNeg) * 1000) / (dn a.toNatClampNeg)) * (mw kx.toNatClampNeg)) - ((((up a.toNatClampNeg) * 1000) / (dn a.toNatClampNeg)) * (mw kx.toNatClampNeg)) / (sum_L mw wc.toNatClampNeg 0 0) * (sum_L mw wc.toNatClampNeg 0 0)) kx wc.toNatClampNeg 0 (((up a.toNatClampNeg) * 1000) / (dn a.toNatClampNeg)) 0).2))]) hx hb d_M_share_222 hl (by decide) rfl (fun ls hl => ?_)
              refine lv_iload_n hx hb d_M_share_224 rfl (lv_at hl 3 rfl) ?_
              refine lv_if_ne (tgt := 248) hx hb d_M_share_225 (by decide) (fun c_25 => ?_) (fun c_25 => ?_)
              · skip
                refine lv_lconst (v := 0) hx hb d_M_share_248 (by decide) ?_
                refine lv_lstore (lv' := [(15, .long 0), (13, .long v_24), (0, .ref g), (1, .int a), (2, .int kx), (3, .long (sum_L mw wc.toNatClampNeg 0 0)), (5, .long (((up a.toNatClampNeg) * 1000) / (dn a.toNatClampNeg))), (7, .long ((ts_L mw (((up a.toNatClampNeg) * 1000) / (dn a.toNatClampNeg)) (sum_L mw wc.toNatClampNeg 0 0) (((((up a.toNatClampNeg) * 1000) / (dn a.toNatClampNeg)) * (mw kx.toNatClampNeg)) - ((((up a.toNatClampNeg) * 1000) / (dn a.toNatClampNeg)) * (mw kx.toNatClampNeg)) / (sum_L mw wc.toNatClampNeg 0 0) * (sum_L mw wc.toNatClampNeg 0 0)) kx wc.toNatClampNeg 0 (((up a.toNatClampNeg) * 1000) / (dn a.toNatClampNeg)) 0).1)), (9, .long ((ts_L mw (((up a.toNatClampNeg) * 1000) / (dn a.toNatClampNeg)) (sum_L mw wc.toNatClampNeg 0 0) (((((up a.toNatClampNeg) * 1000) / (dn a.toNatClampNeg)) * (mw kx.toNatClampNeg)) - ((((up a.toNatClampNeg) * 1000) / (dn a.toNatClampNeg)) * (mw kx.toNatClampNeg)) / (sum_L mw wc.toNatClampNeg 0 0) * (sum_L mw wc.toNatClampNeg 0 0)) kx wc.toNatClampNeg 0 (((up a.toNatClampNeg) * 1000) / (dn a.toNatClampNeg)) 0).2))]) hx hb d_M_share_249 hl (by decide) rfl (fun ls hl => ?_)
                refine lv_aload_n hx hb d_M_share_251 rfl (lv_at hl 2 rfl) ?_
                refine lv_lload hx hb d_M_share_252 (lv_at hl 1 rfl) ?_
                refine lv_aload_n hx hb d_M_share_254 rfl (lv_at hl 2 rfl) ?_
                refine va_get (D := (dC, dI)) (ci := 2) (v := .ref m2) (C := R_M) (T := F_M) (N := 11) hx hb hg in_M hown hK hP 0 rfl rfl 3 (by decide) (hg _ wg_269) (fun _ h9 => h9) rfl d_M_share_255 ?_
                refine lv_iload_n hx hb d_M_share_258 rfl (lv_at hl 3 rfl) ?_
                refine va_lald hx hb hK hP 2 0 rfl rfl (mam_in c_1 ha) d_M_share_259 ?_
                refine lv_lmul hx hb d_M_share_260 ?_
                refine lv_lload hx hb d_M_share_261 (lv_at hl 0 rfl) ?_
                refine lv_ladd hx hb d_M_share_263 ?_
                refine lv_ldc2 (v := 1000) hx hb hown (hg _ wg_360) d_M_share_264 ?_
                refine lv_aload_n hx hb d_M_share_267 rfl (lv_at hl 2 rfl) ?_
                refine va_get (D := (dC, dI)) (ci := 2) (v := .ref m2) (C := R_M) (T := F_M) (N := 11) hx hb hg in_M hown hK hP 0 rfl rfl 3 (by decide) (hg _ wg_269) (fun _ h9 => h9) rfl d_M_share_268 ?_
                refine lv_iload_n hx hb d_M_share_271 rfl (lv_at hl 3 rfl) ?_
                refine va_lald hx hb hK hP 2 0 rfl rfl (mam_in c_1 ha) d_M_share_272 ?_
                refine lv_lmul hx hb d_M_share_273 ?_
                refine lv_aload_n hx hb d_M_share_274 rfl (lv_at hl 2 rfl) ?_
                refine va_get (D := (dC, dI)) (ci := 2) (v := .ref m3) (C := R_M) (T := F_M) (N := 11) hx hb hg in_M hown hK hP 0 rfl rfl 4 (by decide) (hg _ wg_270) (fun _ h9 => h9) rfl d_M_share_275 ?_
                refine lv_iload_n hx hb d_M_share_278 rfl (lv_at hl 3 rfl) ?_
                refine va_iald hx hb hK hP 3 1 rfl rfl (mam_in c_1 ha) d_M_share_279 ?_
                have hPc := hP.sub (ws' := [(g, .inr (2, [.int 0, .int am, .ref m1, .ref m2, .ref m3, .ref m4, .ref m5, .ref m6, .ref m7, .int wc, .ref m8])), (m1, .inl (cJ, 500, .inr (.inl up))), (m2, .inl (cJ, 500, .inr (.inl dn))), (m3, .inl (cI, 500, .inl mu))]) [0, 1, 2, 3] rfl
                have hDc := hD.sub (ws' := [(g, .inr (2, [.int 0, .int am, .ref m1, .ref m2, .ref m3, .ref m4, .ref m5, .ref m6, .ref m7, .int wc, .ref m8])), (m1, .inl (cJ, 500, .inr (.inl up))), (m2, .inl (cJ, 500, .inr (.inl dn))), (m3, .inl (cI, 500, .inl mu))]) [0, 1, 2, 3] (by decide) rfl
                have hFc := va_free (wc := [(g, .inr (2, [.int 0, .int am, .ref m1, .ref m2, .ref m3, .ref m4, .ref m5, .ref m6, .ref m7, .int wc, .ref m8])), (m1, .inl (cJ, 500, .inr (.inl up))), (m2, .inl (cJ, 500, .inr (.inl dn))), (m3, .inl (cI, 500, .inl mu))]) hD hS hA [0, 1, 2, 3] rfl
                refine va_calli (va_runV (As := [.long ((v_24 * (dn a.toNatClampNeg)) + 0), .long (1000 * (dn a.toNatClampNeg)), .int (mu a.toNatClampNeg)]) (rest := []) ⟨hx, hb, hml, hown, hg⟩ (k_M_make l dC dI cJ cI cT g m1 m2 m3 m4 m5 m6 m7 m8 0 am wc up dn mu ((v_24 * (dn a.toNatClampNeg)) + 0) (1000 * (dn a.toNatClampNeg)) (mu a.toNatClampNeg) _ ha0 ha (hq c_1)) (q_V 3 hg wg_300 wg_298 wg_299 wg_10 wg_15 rfl rfl (by decide +kernel) ⟨Nat.le_of_ble_eq_true rfl, Nat.le_of_ble_eq_true rfl⟩) ⟨wx_blind, va_recv hK hPc (ci := 2) (q0 := 0) rfl rfl, wx_pre (as := .ref g :: [.long ((v_24 * (dn a.toNatClampNeg)) + 0), .long (1000 * (dn a.toNatClampNeg)), .int (mu a.toNatClampNeg)]) hPc hK hDc⟩ rfl rfl hl.1 rfl (lv_room (Nat.le_of_ble_eq_true rfl)) d_M_share_280 ⟨Nat.le_of_ble_eq_true rfl, Nat.le_of_ble_eq_true rfl⟩) hS (fun q _ h => hFc q h) hFc (fun r_30 u t H1 locs ht hvm hw_31 hB hz1 hk1 hS => ?_)
                obtain ⟨up_26, dn_27, mu_28, am_29⟩ := u
                obtain ⟨hP1, hK1, hD1⟩ := hB
                rw [ht] at hP1
                obtain ⟨hP, hD⟩ := va_join (wr := [(m8, .inl (cJ, 16, .inr (.inl mw)))]) (w1 := [(g, .inr (2, [.int 0, .int am_29, .ref m1, .ref m2, .ref m3, .ref m4, .ref m5, .ref m6, .ref m7, .int wc, .ref m8])), (m1, .inl (cJ, 500, .inr (.inl up_26))), (m2, .inl (cJ, 500, .inr (.inl dn_27))), (m3, .inl (cI, 500, .inl mu_28))]) hP hD [0, 1, 2, 3] [4] rfl rfl (by decide) (by decide) hk1 hFc hP1 hD1
                generalize H1 = H at hP hS ⊢
                have hP : va_P (dC, dI) classes [(m8, .inl (cJ, 16, .inr (.inl mw))), (g, .inr (2, [.int 0, .int am_29, .ref m1, .ref m2, .ref m3, .ref m4, .ref m5, .ref m6, .ref m7, .int wc, .ref m8])), (m1, .inl (cJ, 500, .inr (.inl up_26))), (m2, .inl (cJ, 500, .inr (.inl dn_27))), (m3, .inl (cI, 500, .inl mu_28))] H := hP
                have hD : va_D A [(m8, .inl (cJ, 16, .inr (.inl mw))), (g, .inr (2, [.int 0, .int am_29, .ref m1, .ref m2, .ref m3, .ref m4, .ref m5, .ref m6, .ref m7, .int wc, .ref m8])), (m1, .inl (cJ, 500, .inr (.inl up_26))), (m2, .inl (cJ, 500, .inr (.inl dn_27))), (m3, .inl (cI, 500, .inl mu_28))] := hD
                subst ev_24
                have hP9 := hP.sub (ws' := [(g, .inr (2, [.int 0, .int am_29, .ref m1, .ref m2, .ref m3, .ref m4, .ref m5, .ref m6, .ref m7, .int wc, .ref m8])), (m1, .inl (cJ, 500, .inr (.inl up_26))), (m2, .inl (cJ, 500, .inr (.inl dn_27))), (m3, .inl (cI, 500, .inl mu_28)), (m8, .inl (cJ, 16, .inr (.inl mw)))]) [1, 2, 3, 4, 0] rfl
                have hD9 := hD.sub (ws' := [(g, .inr (2, [.int 0, .int am_29, .ref m1, .ref m2, .ref m3, .ref m4, .ref m5, .ref m6, .ref m7, .int wc, .ref m8])), (m1, .inl (cJ, 500, .inr (.inl up_26))), (m2, .inl (cJ, 500, .inr (.inl dn_27))), (m3, .inl (cI, 500, .inl mu_28)), (m8, .inl (cJ, 16, .inr (.inl mw)))]) [1, 2, 3, 4, 0] (by decide) rfl
                have hz : (r_30, (0, up_26, dn_27, mu_28, am_29)) = f_M_share up dn mu am mw wc a kx := by unfold f_M_share; rw [if_neg c_1, if_neg c_2, if_pos c_3, if_neg c_4, if_neg c_5, if_neg c_8, if_neg c_25]; exact congrArg (mk5 0) hw_31
                exact W.iret (v := r_30) hx hb hr (fun t ht hW => ⟨⟨r_30, (0, up_26, dn_27, mu_28, am_29), rfl, hz, wb_of ht hW hP9 hK hD9⟩, hS.F ht⟩) hS.2.2 d_M_share_283
              · skip
                refine lv_aload_n hx hb d_M_share_228 rfl (lv_at hl 1 rfl) ?_
                refine va_get (D := (dC, dI)) (ci := 2) (v := .ref m1) (C := R_M) (T := F_M) (N := 11) hx hb hg in_M hown hK hP 0 rfl rfl 2 (by decide) (hg _ wg_268) (fun _ h9 => h9) rfl d_M_share_229 ?_
                refine lv_iload_n hx hb d_M_share_232 rfl (lv_at hl 2 rfl) ?_
                refine va_lald hx hb hK hP 1 0 rfl rfl (mam_in c_1 ha) d_M_share_233 ?_
                refine lv_ldc2 (v := 1000) hx hb hown (hg _ wg_360) d_M_share_234 ?_
                refine lv_lmul hx hb d_M_share_237 ?_
                refine lv_aload_n hx hb d_M_share_238 rfl (lv_at hl 1 rfl) ?_
                refine va_get (D := (dC, dI)) (ci := 2) (v := .ref m2) (C := R_M) (T := F_M) (N := 11) hx hb hg in_M hown hK hP 0 rfl rfl 3 (by decide) (hg _ wg_269) (fun _ h9 => h9) rfl d_M_share_239 ?_
                refine lv_iload_n hx hb d_M_share_242 rfl (lv_at hl 2 rfl) ?_
                refine va_lald hx hb hK hP 2 0 rfl rfl (mam_in c_1 ha) d_M_share_243 ?_
                refine lv_lrem hx hb d_M_share_244 (hd c_1) ?_
                refine lv_goto (tgt := 249) hx hb d_M_share_245 (by decide) ?_
                refine lv_topl (fun v_32 ev_32 => ?_)
                refine lv_lstore (lv' := [(15, .long v_32), (13, .long v_24), (0, .ref g), (1, .int a), (2, .int kx), (3, .long (sum_L mw wc.toNatClampNeg 0 0)), (5, .long (((up a.toNatClampNeg) * 1000) / (dn a.toNatClampNeg))), (7, .long ((ts_L mw (((up a.toNatClampNeg) * 1000) / (dn a.toNatClampNeg)) (sum_L mw wc.toNatClampNeg 0 0) (((((up a.toNatClampNeg) * 1000) / (dn a.toNatClampNeg)) * (mw kx.toNatClampNeg)) - ((((up a.toNatClampNeg) * 1000) / (dn a.toNatClampNeg)) * (mw kx.toNatClampNeg)) / (sum_L mw wc.toNatClampNeg 0 0) * (sum_L mw wc.toNatClampNeg 0 0)) kx wc.toNatClampNeg 0 (((up a.toNatClampNeg) * 1000) / (dn a.toNatClampNeg)) 0).1)), (9, .long ((ts_L mw (((up a.toNatClampNeg) * 1000) / (dn a.toNatClampNeg)) (sum_L mw wc.toNatClampNeg 0 0) (((((up a.toNatClampNeg) * 1000) / (dn a.toNatClampNeg)) * (mw kx.toNatClampNeg)) - ((((up a.toNatClampNeg) * 1000) / (dn a.toNatClampNeg)) * (mw kx.toNatClampNeg)) / (sum_L mw wc.toNatClampNeg 0 0) * (sum_L mw wc.toNatClampNeg 0 0)) kx wc.toNatClampNeg 0 (((up a.toNatClampNeg) * 1000) / (dn a.toNatClampNeg)) 0).2))]) hx hb d_M_share_249 hl (by decide) rfl (fun ls hl => ?_)
                refine lv_aload_n hx hb d_M_share_251 rfl (lv_at hl 2 rfl) ?_
                refine lv_lload hx hb d_M_share_252 (lv_at hl 1 rfl) ?_
                refine lv_aload_n hx hb d_M_share_254 rfl (lv_at hl 2 rfl) ?_
                refine va_get (D := (dC, dI)) (ci := 2) (v := .ref m2) (C := R_M) (T := F_M) (N := 11) hx hb hg in_M hown hK hP 0 rfl rfl 3 (by decide) (hg _ wg_269) (fun _ h9 => h9) rfl d_M_share_255 ?_
                refine lv_iload_n hx hb d_M_share_258 rfl (lv_at hl 3 rfl) ?_
                refine va_lald hx hb hK hP 2 0 rfl rfl (mam_in c_1 ha) d_M_share_259 ?_
                refine lv_lmul hx hb d_M_share_260 ?_
                refine lv_lload hx hb d_M_share_261 (lv_at hl 0 rfl) ?_
                refine lv_ladd hx hb d_M_share_263 ?_
                refine lv_ldc2 (v := 1000) hx hb hown (hg _ wg_360) d_M_share_264 ?_
                refine lv_aload_n hx hb d_M_share_267 rfl (lv_at hl 2 rfl) ?_
                refine va_get (D := (dC, dI)) (ci := 2) (v := .ref m2) (C := R_M) (T := F_M) (N := 11) hx hb hg in_M hown hK hP 0 rfl rfl 3 (by decide) (hg _ wg_269) (fun _ h9 => h9) rfl d_M_share_268 ?_
                refine lv_iload_n hx hb d_M_share_271 rfl (lv_at hl 3 rfl) ?_
                refine va_lald hx hb hK hP 2 0 rfl rfl (mam_in c_1 ha) d_M_share_272 ?_
                refine lv_lmul hx hb d_M_share_273 ?_
                refine lv_aload_n hx hb d_M_share_274 rfl (lv_at hl 2 rfl) ?_
                refine va_get (D := (dC, dI)) (ci := 2) (v := .ref m3) (C := R_M) (T := F_M) (N := 11) hx hb hg in_M hown hK hP 0 rfl rfl 4 (by decide) (hg _ wg_270) (fun _ h9 => h9) rfl d_M_share_275 ?_
                refine lv_iload_n hx hb d_M_share_278 rfl (lv_at hl 3 rfl) ?_
                refine va_iald hx hb hK hP 3 1 rfl rfl (mam_in c_1 ha) d_M_share_279 ?_
                have hPc := hP.sub (ws' := [(g, .inr (2, [.int 0, .int am, .ref m1, .ref m2, .ref m3, .ref m4, .ref m5, .ref m6, .ref m7, .int wc, .ref m8])), (m1, .inl (cJ, 500, .inr (.inl up))), (m2, .inl (cJ, 500, .inr (.inl dn))), (m3, .inl (cI, 500, .inl mu))]) [0, 1, 2, 3] rfl
                have hDc := hD.sub (ws' := [(g, .inr (2, [.int 0, .int am, .ref m1, .ref m2, .ref m3, .ref m4, .ref m5, .ref m6, .ref m7, .int wc, .ref m8])), (m1, .inl (cJ, 500, .inr (.inl up))), (m2, .inl (cJ, 500, .inr (.inl dn))), (m3, .inl (cI, 500, .inl mu))]) [0, 1, 2, 3] (by decide) rfl
                have hFc := va_free (wc := [(g, .inr (2, [.int 0, .int am, .ref m1, .ref m2, .ref m3, .ref m4, .ref m5, .ref m6, .ref m7, .int wc, .ref m8])), (m1, .inl (cJ, 500, .inr (.inl up))), (m2, .inl (cJ, 500, .inr (.inl dn))), (m3, .inl (cI, 500, .inl mu))]) hD hS hA [0, 1, 2, 3] rfl
                refine va_calli (va_runV (As := [.long ((v_24 * (dn a.toNatClampNeg)) + v_32), .long (1000 * (dn a.toNatClampNeg)), .int (mu a.toNatClampNeg)]) (rest := []) ⟨hx, hb, hml, hown, hg⟩ (k_M_make l dC dI cJ cI cT g m1 m2 m3 m4 m5 m6 m7 m8 0 am wc up dn mu ((v_24 * (dn a.toNatClampNeg)) + v_32) (1000 * (dn a.toNatClampNeg)) (mu a.toNatClampNeg) _ ha0 ha (hq c_1)) (q_V 3 hg wg_300 wg_298 wg_299 wg_10 wg_15 rfl rfl (by decide +kernel) ⟨Nat.le_of_ble_eq_true rfl, Nat.le_of_ble_eq_true rfl⟩) ⟨wx_blind, va_recv hK hPc (ci := 2) (q0 := 0) rfl rfl, wx_pre (as := .ref g :: [.long ((v_24 * (dn a.toNatClampNeg)) + v_32), .long (1000 * (dn a.toNatClampNeg)), .int (mu a.toNatClampNeg)]) hPc hK hDc⟩ rfl rfl hl.1 rfl (lv_room (Nat.le_of_ble_eq_true rfl)) d_M_share_280 ⟨Nat.le_of_ble_eq_true rfl, Nat.le_of_ble_eq_true rfl⟩) hS (fun q _ h => hFc q h) hFc (fun r_37 u t H1 locs ht hvm hw_38 hB hz1 hk1 hS => ?_)
                obtain ⟨up_33, dn_34, mu_35, am_36⟩ := u
                obtain ⟨hP1, hK1, hD1⟩ := hB
                rw [ht] at hP1
                obtain ⟨hP, hD⟩ := va_join (wr := [(m8, .inl (cJ, 16, .inr (.inl mw)))]) (w1 := [(g, .inr (2, [.int 0, .int am_36, .ref m1, .ref m2, .ref m3, .ref m4, .ref m5, .ref m6, .ref m7, .int wc, .ref m8])), (m1, .inl (cJ, 500, .inr (.inl up_33))), (m2, .inl (cJ, 500, .inr (.inl dn_34))), (m3, .inl (cI, 500, .inl mu_35))]) hP hD [0, 1, 2, 3] [4] rfl rfl (by decide) (by decide) hk1 hFc hP1 hD1
                generalize H1 = H at hP hS ⊢
                have hP : va_P (dC, dI) classes [(m8, .inl (cJ, 16, .inr (.inl mw))), (g, .inr (2, [.int 0, .int am_36, .ref m1, .ref m2, .ref m3, .ref m4, .ref m5, .ref m6, .ref m7, .int wc, .ref m8])), (m1, .inl (cJ, 500, .inr (.inl up_33))), (m2, .inl (cJ, 500, .inr (.inl dn_34))), (m3, .inl (cI, 500, .inl mu_35))] H := hP
                have hD : va_D A [(m8, .inl (cJ, 16, .inr (.inl mw))), (g, .inr (2, [.int 0, .int am_36, .ref m1, .ref m2, .ref m3, .ref m4, .ref m5, .ref m6, .ref m7, .int wc, .ref m8])), (m1, .inl (cJ, 500, .inr (.inl up_33))), (m2, .inl (cJ, 500, .inr (.inl dn_34))), (m3, .inl (cI, 500, .inl mu_35))] := hD
                subst ev_32
                subst ev_24
                have hP9 := hP.sub (ws' := [(g, .inr (2, [.int 0, .int am_36, .ref m1, .ref m2, .ref m3, .ref m4, .ref m5, .ref m6, .ref m7, .int wc, .ref m8])), (m1, .inl (cJ, 500, .inr (.inl up_33))), (m2, .inl (cJ, 500, .inr (.inl dn_34))), (m3, .inl (cI, 500, .inl mu_35)), (m8, .inl (cJ, 16, .inr (.inl mw)))]) [1, 2, 3, 4, 0] rfl
                have hD9 := hD.sub (ws' := [(g, .inr (2, [.int 0, .int am_36, .ref m1, .ref m2, .ref m3, .ref m4, .ref m5, .ref m6, .ref m7, .int wc, .ref m8])), (m1, .inl (cJ, 500, .inr (.inl up_33))), (m2, .inl (cJ, 500, .inr (.inl dn_34))), (m3, .inl (cI, 500, .inl mu_35)), (m8, .inl (cJ, 16, .inr (.inl mw)))]) [1, 2, 3, 4, 0] (by decide) rfl
                have hz : (r_37, (0, up_33, dn_34, mu_35, am_36)) = f_M_share up dn mu am mw wc a kx := by unfold f_M_share; rw [if_neg c_1, if_neg c_2, if_pos c_3, if_neg c_4, if_neg c_5, if_neg c_8, if_pos c_25]; exact congrArg (mk5 0) hw_38
                exact W.iret (v := r_37) hx hb hr (fun t ht hW => ⟨⟨r_37, (0, up_33, dn_34, mu_35, am_36), rfl, hz, wb_of ht hW hP9 hK hD9⟩, hS.F ht⟩) hS.2.2 d_M_share_283
          · skip
            rw [lg_cmp_eq] at c_5
            refine lv_iconst (v := (-1)) hx hb d_M_share_75 (by decide) ?_
            have hP9 := hP.sub (ws' := [(g, .inr (2, [.int 0, .int am, .ref m1, .ref m2, .ref m3, .ref m4, .ref m5, .ref m6, .ref m7, .int wc, .ref m8])), (m1, .inl (cJ, 500, .inr (.inl up))), (m2, .inl (cJ, 500, .inr (.inl dn))), (m3, .inl (cI, 500, .inl mu)), (m8, .inl (cJ, 16, .inr (.inl mw)))]) [0, 1, 2, 3, 4] rfl
            have hD9 := hD.sub (ws' := [(g, .inr (2, [.int 0, .int am, .ref m1, .ref m2, .ref m3, .ref m4, .ref m5, .ref m6, .ref m7, .int wc, .ref m8])), (m1, .inl (cJ, 500, .inr (.inl up))), (m2, .inl (cJ, 500, .inr (.inl dn))), (m3, .inl (cI, 500, .inl mu)), (m8, .inl (cJ, 16, .inr (.inl mw)))]) [0, 1, 2, 3, 4] (by decide) rfl
            have hz : ((-1), (0, up, dn, mu, am)) = f_M_share up dn mu am mw wc a kx := by unfold f_M_share; rw [if_neg c_1, if_neg c_2, if_pos c_3, if_neg c_4, if_pos c_5]
            exact W.iret (v := (-1)) hx hb hr (fun t ht hW => ⟨⟨(-1), (0, up, dn, mu, am), rfl, hz, wb_of ht hW hP9 hK hD9⟩, hS.F ht⟩) hS.2.2 d_M_share_76
      · skip
        refine lv_bipush (v := (-3)) hx hb d_M_share_25 (by decide) ?_
        have hP9 := hP.sub (ws' := [(g, .inr (2, [.int 0, .int am, .ref m1, .ref m2, .ref m3, .ref m4, .ref m5, .ref m6, .ref m7, .int wc, .ref m8])), (m1, .inl (cJ, 500, .inr (.inl up))), (m2, .inl (cJ, 500, .inr (.inl dn))), (m3, .inl (cI, 500, .inl mu)), (m8, .inl (cJ, 16, .inr (.inl mw)))]) [0, 1, 2, 3, 4] rfl
        have hD9 := hD.sub (ws' := [(g, .inr (2, [.int 0, .int am, .ref m1, .ref m2, .ref m3, .ref m4, .ref m5, .ref m6, .ref m7, .int wc, .ref m8])), (m1, .inl (cJ, 500, .inr (.inl up))), (m2, .inl (cJ, 500, .inr (.inl dn))), (m3, .inl (cI, 500, .inl mu)), (m8, .inl (cJ, 16, .inr (.inl mw)))]) [0, 1, 2, 3, 4] (by decide) rfl
        have hz : ((-3), (0, up, dn, mu, am)) = f_M_share up dn mu am mw wc a kx := by unfold f_M_share; rw [if_neg c_1, if_neg c_2, if_neg c_3]
        exact W.iret (v := (-3)) hx hb hr (fun t ht hW => ⟨⟨(-3), (0, up, dn, mu, am), rfl, hz, wb_of ht hW hP9 hK hD9⟩, hS.F ht⟩) hS.2.2 d_M_share_27
