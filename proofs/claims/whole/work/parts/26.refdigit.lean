def nd_L : Nat → Int64 → Int32 → Int32
  | 0, _, n => n
  | f + 1, v, n => if v ≤ 9 then n else nd_L f (v / 10) (n + 1)
def nd_D : Nat → Int64 → Prop
  | 0, v => v ≤ 9
  | f + 1, v => v ≤ 9 ∨ nd_D f (v / 10)
theorem nd_D1 : ∀ (f : Nat) (v : Int64), v.toInt < 10 ^ (f + 1) → nd_D f v
  | 0, v, h => by
    show v ≤ 9
    rw [Int64.le_iff_toInt_le]
    have e9 : (9 : Int64).toInt = 9 := rfl
    omega
  | f + 1, v, h => by
    by_cases h9 : v ≤ 9
    · exact Or.inl h9
    · right
      apply nd_D1 f
      rw [Int64.le_iff_toInt_le] at h9
      have e9 : (9 : Int64).toInt = 9 := rfl
      have e10 : (10 : Int64).toInt = 10 := rfl
      rw [lg_ldiv_nonneg (by omega) (by rw [e10]; decide), e10]
      rw [Int.pow_succ] at h
      omega
theorem nd_Dall (v : Int64) : nd_D 20 v := nd_D1 20 v (Int.lt_trans (Int64.toInt_lt v) (by decide))
set_option maxHeartbeats 4000000 in
set_option maxRecDepth 100000 in
theorem lp_M_digitA {p : Program} {l : Launch} {e : Env} {R : Room} {s : State} {m : MethodId} {args : Array Value} {below : List Frame} {meth : Method} {c : Code} {H : Heap} {locs : List Loc} {cells slots : Nat} {Q : State → Prop} {g : Nat} {i : Int32} {u : Int64} (hx : p.tables.exec = Jvm.exec) (hb : c.code = c_M_digit) (hg : ∀ w ∈ WG, w.before args s = true) (hown : s.vm.findClass R_M = some m.cls) : ∀ (f : Nat) (v : Int64) (n : Int32) (ls : Array Slot), nd_D f v → lv_has ls 11 [(0, .ref g), (3, .int i), (6, .long u), (8, .int n), (9, .long v)] → (∀ ls' : Array Slot, lv_has ls' 11 [(0, .ref g), (3, .int i), (6, .long u), (8, .int (nd_L f v n))] → W p l e R s m args below meth c H locs cells slots Q (F0 m 90 ls' [])) → W p l e R s m args below meth c H locs cells slots Q (F0 m 67 ls []) := by
  intro f
  induction f with
  | zero =>
    intro v n ls hd hl kk
    refine lv_lload hx hb d_M_digit_67 (lv_at hl 4 rfl) ?_
    refine lv_ldc2 (v := 9) hx hb hown (hg _ wg_365) d_M_digit_69 ?_
    refine W.lcmp hx hb d_M_digit_72 ?_
    refine lv_if_le (tgt := 90) hx hb d_M_digit_73 (by decide) (fun c_1 => ?_) (fun c_1 => ?_)
    · skip
      rw [lg_cmp_le] at c_1
      exact kk ls (lv_sub hl [0, 1, 2, 3] rfl)
    · skip
      rw [lg_cmp_le] at c_1
      exact absurd hd c_1
  | succ f ih =>
    intro v n ls hd hl kk
    refine lv_lload hx hb d_M_digit_67 (lv_at hl 4 rfl) ?_
    refine lv_ldc2 (v := 9) hx hb hown (hg _ wg_365) d_M_digit_69 ?_
    refine W.lcmp hx hb d_M_digit_72 ?_
    refine lv_if_le (tgt := 90) hx hb d_M_digit_73 (by decide) (fun c_1 => ?_) (fun c_1 => ?_)
    · skip
      rw [lg_cmp_le] at c_1
      have hz : nd_L (f + 1) v n = n := if_pos c_1
      exact kk ls (by rw [hz]; exact lv_sub hl [0, 1, 2, 3] rfl)
    · skip
      rw [lg_cmp_le] at c_1
      obtain ⟨v_2, ev_2⟩ : ∃ y : Int32, y = n + 1 := ⟨_, rfl⟩
      refine lv_iinc (v := v_2) (lv' := [(8, .int v_2), (0, .ref g), (3, .int i), (6, .long u), (9, .long v)]) hx hb d_M_digit_76 hl (k := 3) rfl (by rw [ev_2]; rfl) (by decide) rfl (fun ls hl => ?_)
      refine lv_lload hx hb d_M_digit_79 (lv_at hl 4 rfl) ?_
      refine lv_ldc2 (v := 10) hx hb hown (hg _ wg_366) d_M_digit_81 ?_
      refine lv_ldiv hx hb d_M_digit_84 (by decide) ?_
      refine lv_topl (fun v_3 ev_3 => ?_)
      refine lv_lstore (lv' := [(9, .long v_3), (8, .int v_2), (0, .ref g), (3, .int i), (6, .long u)]) hx hb d_M_digit_85 hl (by decide) rfl (fun ls hl => ?_)
      refine lv_goto (tgt := 67) hx hb d_M_digit_87 (by decide) ?_
      subst ev_3
      subst ev_2
      exact ih _ _ ls (hd.resolve_left c_1) (lv_sub hl [2, 3, 4, 1, 0] rfl) (fun ls' hl' => kk ls' (by rw [show nd_L (f + 1) v n = nd_L f (v / 10) (n + 1) from if_neg c_1]; exact hl'))
set_option maxHeartbeats 4000000 in
set_option maxRecDepth 100000 in
theorem lp_M_digitB {p : Program} {l : Launch} {e : Env} {R : Room} {s : State} {m : MethodId} {args : Array Value} {below : List Frame} {meth : Method} {c : Code} {H : Heap} {locs : List Loc} {cells slots : Nat} {Q : State → Prop} {dC : Nat → ClassId} {dI : Nat → Nat → Nat} {cJ cI cT : ClassId} {g m1 m2 m3 m4 m5 m6 m7 m8 : Nat} {am wc : Int32} (hx : p.tables.exec = Jvm.exec) (hb : c.code = c_M_digit) (hg : ∀ w ∈ WG, w.before args s = true) (hown : s.vm.findClass R_M = some m.cls) (hK : va_K (dC, dI) classes (TY cJ cI cT) s) (hP : va_P (dC, dI) classes [(g, .inr (2, [.int 0, .int am, .ref m1, .ref m2, .ref m3, .ref m4, .ref m5, .ref m6, .ref m7, .int wc, .ref m8]))] H) : ∀ (q j : Nat) (u : Int64) (ls : Array Slot), j + q < 2 ^ 31 → lv_has ls 11 [(0, .ref g), (3, .int (nI (j + q))), (6, .long u), (9, .int (nI j))] → (∀ ls' : Array Slot, lv_has ls' 11 [(0, .ref g), (6, .long (it_10 q u))] → W p l e R s m args below meth c H locs cells slots Q (F0 m 139 ls' [])) → W p l e R s m args below meth c H locs cells slots Q (F0 m 112 ls []) := by
  intro q
  induction q with
  | zero =>
    intro j u ls hj hl kk
    refine lv_iload hx hb d_M_digit_112 (lv_at hl 3 rfl) ?_
    refine lv_iload_n hx hb d_M_digit_114 rfl (lv_at hl 1 rfl) ?_
    refine lv_icmp_ge (tgt := 139) hx hb d_M_digit_115 (by decide) (fun c_1 => ?_) (fun c_1 => ?_)
    · skip
      exact kk ls (lv_sub hl [0, 2] rfl)
    · skip
      exact absurd (nI_le (Nat.le_refl j) (by omega)) c_1
  | succ q ih =>
    intro j u ls hj hl kk
    refine lv_iload hx hb d_M_digit_112 (lv_at hl 3 rfl) ?_
    refine lv_iload_n hx hb d_M_digit_114 rfl (lv_at hl 1 rfl) ?_
    refine lv_icmp_ge (tgt := 139) hx hb d_M_digit_115 (by decide) (fun c_1 => ?_) (fun c_1 => ?_)
    · skip
      exact absurd c_1 (nI_ge (by omega) (by omega))
    · skip
      refine lv_aload_n hx hb d_M_digit_118 rfl (lv_at hl 0 rfl) ?_
      refine va_get (D := (dC, dI)) (ci := 2) (v := .int 0) (C := R_M) (T := F_M) (N := 11) hx hb hg in_M hown hK hP 0 rfl rfl 0 (by decide) (hg _ wg_266) (fun _ h9 => h9) rfl d_M_digit_119 ?_
      refine lv_if_ne (tgt := 139) hx hb d_M_digit_122 (by decide) (fun c_2 => ?_) (fun c_2 => ?_)
      · skip
        exact absurd c_2 (by decide)
      · skip
        refine lv_lload hx hb d_M_digit_125 (lv_at hl 2 rfl) ?_
        refine lv_ldc2 (v := 10) hx hb hown (hg _ wg_366) d_M_digit_127 ?_
        refine lv_ldiv hx hb d_M_digit_130 (by decide) ?_
        refine lv_topl (fun v_3 ev_3 => ?_)
        refine lv_lstore (lv' := [(6, .long v_3), (0, .ref g), (3, .int (nI (j + (q + 1)))), (9, .int (nI j))]) hx hb d_M_digit_131 hl (by decide) rfl (fun ls hl => ?_)
        obtain ⟨v_4, ev_4⟩ : ∃ y : Int32, y = nI j + 1 := ⟨_, rfl⟩
        refine lv_iinc (v := v_4) (lv' := [(9, .int v_4), (6, .long v_3), (0, .ref g), (3, .int (nI (j + (q + 1))))]) hx hb d_M_digit_133 hl (k := 3) rfl (by rw [ev_4]; rfl) (by decide) rfl (fun ls hl => ?_)
        refine lv_goto (tgt := 112) hx hb d_M_digit_136 (by decide) ?_
        subst ev_4
        subst ev_3
        rw [nI_1] at hl
        have e1 : j + (q + 1) = (j + 1) + q := by omega
        rw [e1] at hl hj
        exact ih (j + 1) _ ls (by omega) (lv_sub hl [2, 3, 1, 0] rfl) kk
/-- digit i behind the point by n further steps from place j: the digit and 0, or 0 and 1 -/
def db_L (d : Int64) (i : Int32) : Nat → Nat → Int64 → Int32 × Int32
  | 0, _, _ => (0, 1)
  | n + 1, j, u => if u ≤ 0 then (0, 1) else if nI j = i then ((u * 10 / d).toInt32, 0) else db_L d i n (j + 1) (u * 10 - u * 10 / d * d)
set_option maxHeartbeats 4000000 in
set_option maxRecDepth 100000 in
theorem lp_M_digitC {p : Program} {l : Launch} {e : Env} {R : Room} {s : State} {m : MethodId} {args : Array Value} {below : List Frame} {meth : Method} {c : Code} {H : Heap} {locs : List Loc} {cells slots : Nat} {Q : State → Prop} {dC : Nat → ClassId} {dI : Nat → Nat → Nat} {cJ cI cT : ClassId} {g m1 m2 m3 m4 m5 m6 m7 m8 : Nat} {am wc : Int32} {dn : Nat → Int64} {a i : Int32} (hx : p.tables.exec = Jvm.exec) (hb : c.code = c_M_digit) (hg : ∀ w ∈ WG, w.before args s = true) (hown : s.vm.findClass R_M = some m.cls) (hin : vp_in a 500) (hd : ¬ dn a.toNatClampNeg = 0) (hK : va_K (dC, dI) classes (TY cJ cI cT) s) (hP : va_P (dC, dI) classes [(g, .inr (2, [.int 0, .int am, .ref m1, .ref m2, .ref m3, .ref m4, .ref m5, .ref m6, .ref m7, .int wc, .ref m8])), (m2, .inl (cJ, 500, .inr (.inl dn)))] H) : ∀ (q j : Nat) (u : Int64) (ls : Array Slot), j + q = 30 → lv_has ls 11 [(0, .ref g), (1, .int a), (3, .int i), (6, .long u), (8, .int (nI j))] → (∀ (ls' : Array Slot) (v : Int32), db_L (dn a.toNatClampNeg) i q j u = (v, 0) → ls'.size = 11 → W p l e R s m args below meth c H locs cells slots Q (F0 m 210 ls' [.int v])) → (∀ ls' : Array Slot, db_L (dn a.toNatClampNeg) i q j u = (0, 1) → lv_has ls' 11 [(0, .ref g)] → W p l e R s m args below meth c H locs cells slots Q (F0 m 228 ls' [])) → W p l e R s m args below meth c H locs cells slots Q (F0 m 172 ls []) := by
  intro q
  induction q with
  | zero =>
    intro j u ls hj hl kA kB
    obtain rfl : j = 30 := by omega
    refine lv_iload hx hb d_M_digit_172 (lv_at hl 4 rfl) ?_
    refine lv_bipush (v := 30) hx hb d_M_digit_174 (by decide) ?_
    refine lv_icmp_ge (tgt := 228) hx hb d_M_digit_176 (by decide) (fun c_1 => ?_) (fun c_1 => ?_)
    · skip
      exact kB ls rfl (lv_sub hl [0] rfl)
    · skip
      exact absurd (by decide) c_1
  | succ q ih =>
    intro j u ls hj hl kA kB
    refine lv_iload hx hb d_M_digit_172 (lv_at hl 4 rfl) ?_
    refine lv_bipush (v := 30) hx hb d_M_digit_174 (by decide) ?_
    refine lv_icmp_ge (tgt := 228) hx hb d_M_digit_176 (by decide) (fun c_1 => ?_) (fun c_1 => ?_)
    · skip
      exact absurd c_1 (nI_ge (b := 30) (by omega) (by decide))
    · skip
      refine lv_lload hx hb d_M_digit_179 (lv_at hl 3 rfl) ?_
      refine lv_lconst (v := 0) hx hb d_M_digit_181 (by decide) ?_
      refine W.lcmp hx hb d_M_digit_182 ?_
      refine lv_if_le (tgt := 228) hx hb d_M_digit_183 (by decide) (fun c_2 => ?_) (fun c_2 => ?_)
      · skip
        rw [lg_cmp_le] at c_2
        exact kB ls (if_pos c_2) (lv_sub hl [0] rfl)
      · skip
        rw [lg_cmp_le] at c_2
        refine lv_lload hx hb d_M_digit_186 (lv_at hl 3 rfl) ?_
        refine lv_ldc2 (v := 10) hx hb hown (hg _ wg_366) d_M_digit_188 ?_
        refine lv_lmul hx hb d_M_digit_191 ?_
        refine lv_topl (fun v_3 ev_3 => ?_)
        refine lv_lstore (lv' := [(6, .long v_3), (0, .ref g), (1, .int a), (3, .int i), (8, .int (nI j))]) hx hb d_M_digit_192 hl (by decide) rfl (fun ls hl => ?_)
        refine lv_iload hx hb d_M_digit_194 (lv_at hl 4 rfl) ?_
        refine lv_iload_n hx hb d_M_digit_196 rfl (lv_at hl 3 rfl) ?_
        refine lv_icmp_ne (tgt := 211) hx hb d_M_digit_197 (by decide) (fun c_4 => ?_) (fun c_4 => ?_)
        · skip
          refine lv_lload hx hb d_M_digit_211 (lv_at hl 0 rfl) ?_
          refine lv_aload_n hx hb d_M_digit_213 rfl (lv_at hl 1 rfl) ?_
          refine va_get (D := (dC, dI)) (ci := 2) (v := .ref m2) (C := R_M) (T := F_M) (N := 11) hx hb hg in_M hown hK hP 0 rfl rfl 3 (by decide) (hg _ wg_269) (fun _ h9 => h9) rfl d_M_digit_214 ?_
          refine lv_iload_n hx hb d_M_digit_217 rfl (lv_at hl 2 rfl) ?_
          refine va_lald hx hb hK hP 1 0 rfl rfl hin d_M_digit_218 ?_
          refine lv_lrem hx hb d_M_digit_219 hd ?_
          refine lv_topl (fun v_5 ev_5 => ?_)
          refine lv_lstore (lv' := [(6, .long v_5), (0, .ref g), (1, .int a), (3, .int i), (8, .int (nI j))]) hx hb d_M_digit_220 hl (by decide) rfl (fun ls hl => ?_)
          obtain ⟨v_6, ev_6⟩ : ∃ y : Int32, y = nI j + 1 := ⟨_, rfl⟩
          refine lv_iinc (v := v_6) (lv' := [(8, .int v_6), (6, .long v_5), (0, .ref g), (1, .int a), (3, .int i)]) hx hb d_M_digit_222 hl (k := 4) rfl (by rw [ev_6]; rfl) (by decide) rfl (fun ls hl => ?_)
          refine lv_goto (tgt := 172) hx hb d_M_digit_225 (by decide) ?_
          subst ev_6
          subst ev_5
          subst ev_3
          rw [nI_1] at hl
          have ez : db_L (dn a.toNatClampNeg) i (q + 1) j u = db_L (dn a.toNatClampNeg) i q (j + 1) (u * 10 - u * 10 / dn a.toNatClampNeg * dn a.toNatClampNeg) := by show (if u ≤ 0 then _ else if nI j = i then _ else _) = _; rw [if_neg c_2, if_neg c_4]
          rw [ez] at kA kB
          exact ih (j + 1) _ ls (by omega) (lv_sub hl [2, 3, 4, 1, 0] rfl) kA kB
        · skip
          refine lv_lload hx hb d_M_digit_200 (lv_at hl 0 rfl) ?_
          refine lv_aload_n hx hb d_M_digit_202 rfl (lv_at hl 1 rfl) ?_
          refine va_get (D := (dC, dI)) (ci := 2) (v := .ref m2) (C := R_M) (T := F_M) (N := 11) hx hb hg in_M hown hK hP 0 rfl rfl 3 (by decide) (hg _ wg_269) (fun _ h9 => h9) rfl d_M_digit_203 ?_
          refine lv_iload_n hx hb d_M_digit_206 rfl (lv_at hl 2 rfl) ?_
          refine va_lald hx hb hK hP 1 0 rfl rfl hin d_M_digit_207 ?_
          refine lv_ldiv hx hb d_M_digit_208 hd ?_
          refine lv_l2i hx hb d_M_digit_209 rfl ?_
          subst ev_3
          exact kA ls _ (by show (if u ≤ 0 then _ else if nI j = i then _ else _) = _; rw [if_neg c_2, if_pos c_4]) hl.1
def f_M_digit (up dn : Nat → Int64) (mu : Nat → Int32) (am : Int32) (a : Int32) (pa : Int32) (i : Int32) : Int32 × Int32 × (Nat → Int64) × (Nat → Int64) × (Nat → Int32) × Int32 := if (f_M_isAmount a am) = 0 then ((-3), (0, up, dn, mu, am)) else if 0 ≤ (up a.toNatClampNeg) then if pa = 0 then if i < 0 then if i ≤ 0 then (0, (1, up, dn, mu, am)) else (0, (1, up, dn, mu, am)) else if i < (nd_L 20 ((up a.toNatClampNeg) / (dn a.toNatClampNeg)) 1) then (((it_10 i.toNatClampNeg ((up a.toNatClampNeg) / (dn a.toNatClampNeg))) - (it_10 i.toNatClampNeg ((up a.toNatClampNeg) / (dn a.toNatClampNeg))) / 10 * 10).toInt32, (0, up, dn, mu, am)) else if i ≤ 0 then (0, (1, up, dn, mu, am)) else (0, (1, up, dn, mu, am)) else ((db_L (dn a.toNatClampNeg) i 30 0 ((up a.toNatClampNeg) - (up a.toNatClampNeg) / (dn a.toNatClampNeg) * (dn a.toNatClampNeg))).1, (db_L (dn a.toNatClampNeg) i 30 0 ((up a.toNatClampNeg) - (up a.toNatClampNeg) / (dn a.toNatClampNeg) * (dn a.toNatClampNeg))).2, up, dn, mu, am) else if pa = 0 then if i < 0 then if i ≤ 0 then (0, (1, up, dn, mu, am)) else (0, (1, up, dn, mu, am)) else if i < (nd_L 20 ((-(up a.toNatClampNeg)) / (dn a.toNatClampNeg)) 1) then (((it_10 i.toNatClampNeg ((-(up a.toNatClampNeg)) / (dn a.toNatClampNeg))) - (it_10 i.toNatClampNeg ((-(up a.toNatClampNeg)) / (dn a.toNatClampNeg))) / 10 * 10).toInt32, (0, up, dn, mu, am)) else if i ≤ 0 then (0, (1, up, dn, mu, am)) else (0, (1, up, dn, mu, am)) else ((db_L (dn a.toNatClampNeg) i 30 0 ((-(up a.toNatClampNeg)) - (-(up a.toNatClampNeg)) / (dn a.toNatClampNeg) * (dn a.toNatClampNeg))).1, (db_L (dn a.toNatClampNeg) i 30 0 ((-(up a.toNatClampNeg)) - (-(up a.toNatClampNeg)) / (dn a.toNatClampNeg) * (dn a.toNatClampNeg))).2, up, dn, mu, am)
set_option maxHeartbeats 4000000 in
set_option maxRecDepth 100000 in
theorem k_M_digit (l : Launch) (dC : Nat → ClassId) (dI : Nat → Nat → Nat) (cJ cI cT : ClassId) (g m1 m2 m3 m4 m5 m6 m7 m8 : Nat) (cd am wc : Int32) (up dn : Nat → Int64) (mu : Nat → Int32) (a : Int32) (pa : Int32) (i : Int32) (sz : Nat) (ha0 : 0 ≤ am.toInt) (ha : am.toInt ≤ (500 : Nat)) (hd : ¬ f_M_isAmount a am = 0 → ¬ dn a.toNatClampNeg = 0) : Met l y_M_digit w_M_digit ({ frames := 1, cells := 0, slots := 0, locals := 21 }) (va_Pc [.ref g, .int a, .int pa, .int i] (wx dC dI cJ cI cT sz [(g, .inr (2, [.int cd, .int am, .ref m1, .ref m2, .ref m3, .ref m4, .ref m5, .ref m6, .ref m7, .int wc, .ref m8])), (m1, .inl (cJ, 500, .inr (.inl up))), (m2, .inl (cJ, 500, .inr (.inl dn))), (m3, .inl (cI, 500, .inl mu))])) (va_Qi (fun (r9 : Int32) (u9 : Int32 × (Nat → Int64) × (Nat → Int64) × (Nat → Int32) × Int32) => (r9, u9) = f_M_digit up dn mu am a pa i) (fun u => wb dC dI cJ cI cT (va_A [(g, .inr (2, [.int cd, .int am, .ref m1, .ref m2, .ref m3, .ref m4, .ref m5, .ref m6, .ref m7, .int wc, .ref m8])), (m1, .inl (cJ, 500, .inr (.inl up))), (m2, .inl (cJ, 500, .inr (.inl dn))), (m3, .inl (cI, 500, .inl mu))] sz) [(g, .inr (2, [.int u.1, .int u.2.2.2.2, .ref m1, .ref m2, .ref m3, .ref m4, .ref m5, .ref m6, .ref m7, .int wc, .ref m8])), (m1, .inl (cJ, 500, .inr (.inl u.2.1))), (m2, .inl (cJ, 500, .inr (.inl u.2.2.1))), (m3, .inl (cI, 500, .inl u.2.2.2.1))]) (va_A [(g, .inr (2, [.int cd, .int am, .ref m1, .ref m2, .ref m3, .ref m4, .ref m5, .ref m6, .ref m7, .int wc, .ref m8])), (m1, .inl (cJ, 500, .inr (.inl up))), (m2, .inl (cJ, 500, .inr (.inl dn))), (m3, .inl (cI, 500, .inl mu))] sz)) 0 0 (va_A [(g, .inr (2, [.int cd, .int am, .ref m1, .ref m2, .ref m3, .ref m4, .ref m5, .ref m6, .ref m7, .int wc, .ref m8])), (m1, .inl (cJ, 500, .inr (.inl up))), (m2, .inl (cJ, 500, .inr (.inl dn))), (m3, .inl (cI, 500, .inl mu))] sz) := by
  refine Met.ofW (cc := c_M_digit) (maxL := 11) (ret := (Option.some Jvm.ClassFile.FieldType.int)) (by decide) rfl ?_
  intro p e s m args below meth c s₁ B hml hv
  obtain ⟨rfl, hsz, hP, hK, hD0⟩ := hv
  have hx := B.exec
  have hb := B.bytes
  have hr := B.returns
  have hts := atoms_spec (ws := w_M_digit) B.pre
  have hg : ∀ w ∈ WG, w.before _ s = true := fun w h => hts w (List.mem_cons_of_mem _ h)
  have hown : s.vm.findClass R_M = some m.cls := findClass_of_methodNamed B.named
  have hlocks := B.notSynchronized
  have hl := lv_entry ([.ref g, .int a, .int pa, .int i]) (n := 11) (Nat.le_of_ble_eq_true rfl)
  rw [lg_entry_eq]
  generalize (lg_sl ([.ref g, .int a, .int pa, .int i]) ++ List.replicate (11 - (lg_sl ([.ref g, .int a, .int pa, .int i])).length) Slot.unset).toArray = ls at hl ⊢
  have hl : lv_has ls 11 [(0, .ref g), (1, .int a), (2, .int pa), (3, .int i)] := hl
  subst hsz
  have hD := hD0.self (sz := s.heap.size)
  generalize hAe : va_A [(g, .inr (2, [.int cd, .int am, .ref m1, .ref m2, .ref m3, .ref m4, .ref m5, .ref m6, .ref m7, .int wc, .ref m8])), (m1, .inl (cJ, 500, .inr (.inl up))), (m2, .inl (cJ, 500, .inr (.inl dn))), (m3, .inl (cI, 500, .inl mu))] s.heap.size = A at hD ⊢
  have hA : ∀ q : Nat, s.heap.size ≤ q → A q := fun q h => by rw [← hAe]; exact Or.inr h
  have hS : va_S A s.heap s.heap [] := va_S.rf
  have hP : va_P (dC, dI) classes [(g, .inr (2, [.int cd, .int am, .ref m1, .ref m2, .ref m3, .ref m4, .ref m5, .ref m6, .ref m7, .int wc, .ref m8])), (m1, .inl (cJ, 500, .inr (.inl up))), (m2, .inl (cJ, 500, .inr (.inl dn))), (m3, .inl (cI, 500, .inl mu))] s.heap := hP
  have hD : va_D A [(g, .inr (2, [.int cd, .int am, .ref m1, .ref m2, .ref m3, .ref m4, .ref m5, .ref m6, .ref m7, .int wc, .ref m8])), (m1, .inl (cJ, 500, .inr (.inl up))), (m2, .inl (cJ, 500, .inr (.inl dn))), (m3, .inl (cI, 500, .inl mu))] := hD
  skip
  refine lv_aload_n hx hb d_M_digit_0 rfl (lv_at hl 0 rfl) ?_
  refine lv_iconst (v := 0) hx hb d_M_digit_1 (by decide) ?_
  refine va_put (D := (dC, dI)) (ci := 2) (v := .int 0) (ty := .int) (C := R_M) (T := F_M) (N := 11) hx hb hg in_M tt_M tt_M_ok nn_M hown hK hP hD hS 0 rfl rfl 0 (by decide) (hg _ wg_266) (fun _ h9 => h9) rfl (by decide +kernel) rfl rfl (Nat.le_of_ble_eq_true rfl) d_M_digit_2 (fun H locs hP hD hS => ?_)
  have hP : va_P (dC, dI) classes [(g, .inr (2, [.int 0, .int am, .ref m1, .ref m2, .ref m3, .ref m4, .ref m5, .ref m6, .ref m7, .int wc, .ref m8])), (m1, .inl (cJ, 500, .inr (.inl up))), (m2, .inl (cJ, 500, .inr (.inl dn))), (m3, .inl (cI, 500, .inl mu))] H := hP
  have hD : va_D A [(g, .inr (2, [.int 0, .int am, .ref m1, .ref m2, .ref m3, .ref m4, .ref m5, .ref m6, .ref m7, .int wc, .ref m8])), (m1, .inl (cJ, 500, .inr (.inl up))), (m2, .inl (cJ, 500, .inr (.inl dn))), (m3, .inl (cI, 500, .inl mu))] := hD
  refine lv_aload_n hx hb d_M_digit_5 rfl (lv_at hl 0 rfl) ?_
  refine lv_iload_n hx hb d_M_digit_6 rfl (lv_at hl 1 rfl) ?_
  have hPc := hP.sub (ws' := [(g, .inr (2, [.int 0, .int am, .ref m1, .ref m2, .ref m3, .ref m4, .ref m5, .ref m6, .ref m7, .int wc, .ref m8]))]) [0] rfl
  refine W.callV (W.runV (As := [.int a]) (rest := []) ⟨hx, hb, hml, hown, hg⟩ (k_M_isAmount l dC dI cJ cI cT g m1 m2 m3 m4 m5 m6 m7 m8 0 am wc a) (q_V 1 hg wg_312 wg_310 wg_311 wg_11 wg_15 rfl rfl (by decide +kernel) ⟨Nat.le_of_ble_eq_true rfl, Nat.le_of_ble_eq_true rfl⟩) ⟨wd_blind, va_recv hK hPc (ci := 2) (q0 := 0) rfl rfl, wd_pre (as := .ref g :: [.int a]) hPc hK⟩ rfl rfl hl.1 rfl (lv_room (Nat.le_of_ble_eq_true rfl)) d_M_digit_7 ⟨Nat.le_of_ble_eq_true rfl, Nat.le_of_ble_eq_true rfl⟩) ?_
  refine W.eq (g2 := F0 m 10 ls (.int (f_M_isAmount a am) :: [])) rfl ?_
  refine lv_if_ne (tgt := 16) hx hb d_M_digit_10 (by decide) (fun c_1 => ?_) (fun c_1 => ?_)
  · skip
    refine lv_aload_n hx hb d_M_digit_16 rfl (lv_at hl 0 rfl) ?_
    refine va_get (D := (dC, dI)) (ci := 2) (v := .ref m1) (C := R_M) (T := F_M) (N := 11) hx hb hg in_M hown hK hP 0 rfl rfl 2 (by decide) (hg _ wg_268) (fun _ h9 => h9) rfl d_M_digit_17 ?_
    refine lv_iload_n hx hb d_M_digit_20 rfl (lv_at hl 1 rfl) ?_
    refine va_lald hx hb hK hP 1 0 rfl rfl (mam_in c_1 ha) d_M_digit_21 ?_
    refine lv_lconst (v := 0) hx hb d_M_digit_22 (by decide) ?_
    refine W.lcmp hx hb d_M_digit_23 ?_
    refine lv_if_ge (tgt := 37) hx hb d_M_digit_24 (by decide) (fun c_2 => ?_) (fun c_2 => ?_)
    · skip
      rw [lg_cmp_ge] at c_2
      refine lv_aload_n hx hb d_M_digit_37 rfl (lv_at hl 0 rfl) ?_
      refine va_get (D := (dC, dI)) (ci := 2) (v := .ref m1) (C := R_M) (T := F_M) (N := 11) hx hb hg in_M hown hK hP 0 rfl rfl 2 (by decide) (hg _ wg_268) (fun _ h9 => h9) rfl d_M_digit_38 ?_
      refine lv_iload_n hx hb d_M_digit_41 rfl (lv_at hl 1 rfl) ?_
      refine va_lald hx hb hK hP 1 0 rfl rfl (mam_in c_1 ha) d_M_digit_42 ?_
      refine lv_topl (fun v_3 ev_3 => ?_)
      refine lv_lstore (lv' := [(4, .long v_3), (0, .ref g), (1, .int a), (2, .int pa), (3, .int i)]) hx hb d_M_digit_43 hl (by decide) rfl (fun ls hl => ?_)
      refine lv_iload_n hx hb d_M_digit_45 rfl (lv_at hl 3 rfl) ?_
      refine lv_if_ne (tgt := 158) hx hb d_M_digit_46 (by decide) (fun c_4 => ?_) (fun c_4 => ?_)
      · skip
        refine lv_lload hx hb d_M_digit_158 (lv_at hl 0 rfl) ?_
        refine lv_aload_n hx hb d_M_digit_160 rfl (lv_at hl 1 rfl) ?_
        refine va_get (D := (dC, dI)) (ci := 2) (v := .ref m2) (C := R_M) (T := F_M) (N := 11) hx hb hg in_M hown hK hP 0 rfl rfl 3 (by decide) (hg _ wg_269) (fun _ h9 => h9) rfl d_M_digit_161 ?_
        refine lv_iload_n hx hb d_M_digit_164 rfl (lv_at hl 2 rfl) ?_
        refine va_lald hx hb hK hP 2 0 rfl rfl (mam_in c_1 ha) d_M_digit_165 ?_
        refine lv_lrem hx hb d_M_digit_166 (hd c_1) ?_
        refine lv_topl (fun v_5 ev_5 => ?_)
        refine lv_lstore (lv' := [(6, .long v_5), (4, .long v_3), (0, .ref g), (1, .int a), (2, .int pa), (3, .int i)]) hx hb d_M_digit_167 hl (by decide) rfl (fun ls hl => ?_)
        refine lv_iconst (v := 0) hx hb d_M_digit_169 (by decide) ?_
        refine lv_istore (lv' := [(8, .int 0), (6, .long v_5), (4, .long v_3), (0, .ref g), (1, .int a), (2, .int pa), (3, .int i)]) hx hb d_M_digit_170 hl (by decide) rfl (fun ls hl => ?_)
        subst ev_5
        subst ev_3
        refine lp_M_digitC (am := am) (wc := wc) (dn := dn) (g := g) (m1 := m1) (m2 := m2) (m3 := m3) (m4 := m4) (m5 := m5) (m6 := m6) (m7 := m7) (m8 := m8) hx hb hg hown (mam_in c_1 ha) (hd c_1) hK (hP.sub [0, 2] rfl) 30 0 _ ls (by decide) (lv_sub hl [3, 4, 6, 1, 0] rfl) (fun ls v hdb hsz9 => ?_) (fun ls hdb hl => ?_)
        · skip
          have hP9 := hP.sub (ws' := [(g, .inr (2, [.int 0, .int am, .ref m1, .ref m2, .ref m3, .ref m4, .ref m5, .ref m6, .ref m7, .int wc, .ref m8])), (m1, .inl (cJ, 500, .inr (.inl up))), (m2, .inl (cJ, 500, .inr (.inl dn))), (m3, .inl (cI, 500, .inl mu))]) [0, 1, 2, 3] rfl
          have hD9 := hD.sub (ws' := [(g, .inr (2, [.int 0, .int am, .ref m1, .ref m2, .ref m3, .ref m4, .ref m5, .ref m6, .ref m7, .int wc, .ref m8])), (m1, .inl (cJ, 500, .inr (.inl up))), (m2, .inl (cJ, 500, .inr (.inl dn))), (m3, .inl (cI, 500, .inl mu))]) [0, 1, 2, 3] (by decide) rfl
          have hz : (v, (0, up, dn, mu, am)) = f_M_digit up dn mu am a pa i := by unfold f_M_digit; rw [if_neg c_1, if_pos c_2, if_neg c_4, hdb]
          exact W.iret (v := v) hx hb hr (fun t ht hW => ⟨⟨v, (0, up, dn, mu, am), rfl, hz, wb_of ht hW hP9 hK hD9⟩, hS.F ht⟩) hS.2.2 d_M_digit_210
        · skip
          refine lv_aload_n hx hb d_M_digit_228 rfl (lv_at hl 0 rfl) ?_
          refine lv_iconst (v := 1) hx hb d_M_digit_229 (by decide) ?_
          refine va_put (D := (dC, dI)) (ci := 2) (v := .int 1) (ty := .int) (C := R_M) (T := F_M) (N := 11) hx hb hg in_M tt_M tt_M_ok nn_M hown hK hP hD hS 0 rfl rfl 0 (by decide) (hg _ wg_266) (fun _ h9 => h9) rfl (by decide +kernel) rfl rfl (Nat.le_of_ble_eq_true rfl) d_M_digit_230 (fun H locs hP hD hS => ?_)
          have hP : va_P (dC, dI) classes [(g, .inr (2, [.int 1, .int am, .ref m1, .ref m2, .ref m3, .ref m4, .ref m5, .ref m6, .ref m7, .int wc, .ref m8])), (m1, .inl (cJ, 500, .inr (.inl up))), (m2, .inl (cJ, 500, .inr (.inl dn))), (m3, .inl (cI, 500, .inl mu))] H := hP
          have hD : va_D A [(g, .inr (2, [.int 1, .int am, .ref m1, .ref m2, .ref m3, .ref m4, .ref m5, .ref m6, .ref m7, .int wc, .ref m8])), (m1, .inl (cJ, 500, .inr (.inl up))), (m2, .inl (cJ, 500, .inr (.inl dn))), (m3, .inl (cI, 500, .inl mu))] := hD
          refine lv_iconst (v := 0) hx hb d_M_digit_233 (by decide) ?_
          have hP9 := hP.sub (ws' := [(g, .inr (2, [.int 1, .int am, .ref m1, .ref m2, .ref m3, .ref m4, .ref m5, .ref m6, .ref m7, .int wc, .ref m8])), (m1, .inl (cJ, 500, .inr (.inl up))), (m2, .inl (cJ, 500, .inr (.inl dn))), (m3, .inl (cI, 500, .inl mu))]) [0, 1, 2, 3] rfl
          have hD9 := hD.sub (ws' := [(g, .inr (2, [.int 1, .int am, .ref m1, .ref m2, .ref m3, .ref m4, .ref m5, .ref m6, .ref m7, .int wc, .ref m8])), (m1, .inl (cJ, 500, .inr (.inl up))), (m2, .inl (cJ, 500, .inr (.inl dn))), (m3, .inl (cI, 500, .inl mu))]) [0, 1, 2, 3] (by decide) rfl
          have hz : (0, (1, up, dn, mu, am)) = f_M_digit up dn mu am a pa i := by unfold f_M_digit; rw [if_neg c_1, if_pos c_2, if_neg c_4, hdb]
          exact W.iret (v := 0) hx hb hr (fun t ht hW => ⟨⟨0, (1, up, dn, mu, am), rfl, hz, wb_of ht hW hP9 hK hD9⟩, hS.F ht⟩) hS.2.2 d_M_digit_234
      · skip
        refine lv_lload hx hb d_M_digit_49 (lv_at hl 0 rfl) ?_
        refine lv_aload_n hx hb d_M_digit_51 rfl (lv_at hl 1 rfl) ?_
        refine va_get (D := (dC, dI)) (ci := 2) (v := .ref m2) (C := R_M) (T := F_M) (N := 11) hx hb hg in_M hown hK hP 0 rfl rfl 3 (by decide) (hg _ wg_269) (fun _ h9 => h9) rfl d_M_digit_52 ?_
        refine lv_iload_n hx hb d_M_digit_55 rfl (lv_at hl 2 rfl) ?_
        refine va_lald hx hb hK hP 2 0 rfl rfl (mam_in c_1 ha) d_M_digit_56 ?_
        refine lv_ldiv hx hb d_M_digit_57 (hd c_1) ?_
        refine lv_topl (fun v_6 ev_6 => ?_)
        refine lv_lstore (lv' := [(6, .long v_6), (4, .long v_3), (0, .ref g), (1, .int a), (2, .int pa), (3, .int i)]) hx hb d_M_digit_58 hl (by decide) rfl (fun ls hl => ?_)
        refine lv_iconst (v := 1) hx hb d_M_digit_60 (by decide) ?_
        refine lv_istore (lv' := [(8, .int 1), (6, .long v_6), (4, .long v_3), (0, .ref g), (1, .int a), (2, .int pa), (3, .int i)]) hx hb d_M_digit_61 hl (by decide) rfl (fun ls hl => ?_)
        refine lv_lload hx hb d_M_digit_63 (lv_at hl 1 rfl) ?_
        refine lv_lstore (lv' := [(9, .long v_6), (8, .int 1), (6, .long v_6), (4, .long v_3), (0, .ref g), (1, .int a), (2, .int pa), (3, .int i)]) hx hb d_M_digit_65 hl (by decide) rfl (fun ls hl => ?_)
        refine lp_M_digitA hx hb hg hown 20 v_6 1 ls (nd_Dall _) (lv_sub hl [4, 7, 2, 1, 0] rfl) (fun ls hl => ?_)
        refine lv_aload_n hx hb d_M_digit_90 rfl (lv_at hl 0 rfl) ?_
        refine lv_iload_n hx hb d_M_digit_91 rfl (lv_at hl 1 rfl) ?_
        refine lv_if_lt (tgt := 101) hx hb d_M_digit_92 (by decide) (fun c_7 => ?_) (fun c_7 => ?_)
        · skip
          refine lv_iconst (v := 1) hx hb d_M_digit_101 (by decide) ?_
          refine lv_goto (tgt := 106) hx hb d_M_digit_102 (by decide) ?_
          refine va_put (D := (dC, dI)) (ci := 2) (v := .int 1) (ty := .int) (C := R_M) (T := F_M) (N := 11) hx hb hg in_M tt_M tt_M_ok nn_M hown hK hP hD hS 0 rfl rfl 0 (by decide) (hg _ wg_266) (fun _ h9 => h9) rfl (by decide +kernel) rfl rfl (Nat.le_of_ble_eq_true rfl) d_M_digit_106 (fun H locs hP hD hS => ?_)
          have hP : va_P (dC, dI) classes [(g, .inr (2, [.int 1, .int am, .ref m1, .ref m2, .ref m3, .ref m4, .ref m5, .ref m6, .ref m7, .int wc, .ref m8])), (m1, .inl (cJ, 500, .inr (.inl up))), (m2, .inl (cJ, 500, .inr (.inl dn))), (m3, .inl (cI, 500, .inl mu))] H := hP
          have hD : va_D A [(g, .inr (2, [.int 1, .int am, .ref m1, .ref m2, .ref m3, .ref m4, .ref m5, .ref m6, .ref m7, .int wc, .ref m8])), (m1, .inl (cJ, 500, .inr (.inl up))), (m2, .inl (cJ, 500, .inr (.inl dn))), (m3, .inl (cI, 500, .inl mu))] := hD
          refine lv_iconst (v := 0) hx hb d_M_digit_109 (by decide) ?_
          refine lv_istore (lv' := [(9, .int 0), (0, .ref g), (3, .int i), (6, .long v_6), (8, .int (nd_L 20 v_6 1))]) hx hb d_M_digit_110 hl (by decide) rfl (fun ls hl => ?_)
          refine lv_iload hx hb d_M_digit_112 (lv_at hl 0 rfl) ?_
          refine lv_iload_n hx hb d_M_digit_114 rfl (lv_at hl 2 rfl) ?_
          refine lv_icmp_ge (tgt := 139) hx hb d_M_digit_115 (by decide) (fun c_8 => ?_) (fun c_8 => ?_)
          · skip
            refine lv_aload_n hx hb d_M_digit_139 rfl (lv_at hl 1 rfl) ?_
            refine va_get (D := (dC, dI)) (ci := 2) (v := .int 1) (C := R_M) (T := F_M) (N := 11) hx hb hg in_M hown hK hP 0 rfl rfl 0 (by decide) (hg _ wg_266) (fun _ h9 => h9) rfl d_M_digit_140 ?_
            refine lv_if_le (tgt := 150) hx hb d_M_digit_143 (by decide) (fun c_9 => ?_) (fun c_9 => ?_)
            · skip
              exact absurd c_9 (by decide)
            · skip
              refine lv_iconst (v := 0) hx hb d_M_digit_146 (by decide) ?_
              refine lv_goto (tgt := 157) hx hb d_M_digit_147 (by decide) ?_
              subst ev_6
              subst ev_3
              have hP9 := hP.sub (ws' := [(g, .inr (2, [.int 1, .int am, .ref m1, .ref m2, .ref m3, .ref m4, .ref m5, .ref m6, .ref m7, .int wc, .ref m8])), (m1, .inl (cJ, 500, .inr (.inl up))), (m2, .inl (cJ, 500, .inr (.inl dn))), (m3, .inl (cI, 500, .inl mu))]) [0, 1, 2, 3] rfl
              have hD9 := hD.sub (ws' := [(g, .inr (2, [.int 1, .int am, .ref m1, .ref m2, .ref m3, .ref m4, .ref m5, .ref m6, .ref m7, .int wc, .ref m8])), (m1, .inl (cJ, 500, .inr (.inl up))), (m2, .inl (cJ, 500, .inr (.inl dn))), (m3, .inl (cI, 500, .inl mu))]) [0, 1, 2, 3] (by decide) rfl
              have hz : (0, (1, up, dn, mu, am)) = f_M_digit up dn mu am a pa i := by unfold f_M_digit; rw [if_neg c_1, if_pos c_2, if_pos c_4, if_pos c_7, if_pos c_8]
              exact W.iret (v := 0) hx hb hr (fun t ht hW => ⟨⟨0, (1, up, dn, mu, am), rfl, hz, wb_of ht hW hP9 hK hD9⟩, hS.F ht⟩) hS.2.2 d_M_digit_157
          · skip
            refine lv_aload_n hx hb d_M_digit_118 rfl (lv_at hl 1 rfl) ?_
            refine va_get (D := (dC, dI)) (ci := 2) (v := .int 1) (C := R_M) (T := F_M) (N := 11) hx hb hg in_M hown hK hP 0 rfl rfl 0 (by decide) (hg _ wg_266) (fun _ h9 => h9) rfl d_M_digit_119 ?_
            refine lv_if_ne (tgt := 139) hx hb d_M_digit_122 (by decide) (fun c_10 => ?_) (fun c_10 => ?_)
            · skip
              refine lv_aload_n hx hb d_M_digit_139 rfl (lv_at hl 1 rfl) ?_
              refine va_get (D := (dC, dI)) (ci := 2) (v := .int 1) (C := R_M) (T := F_M) (N := 11) hx hb hg in_M hown hK hP 0 rfl rfl 0 (by decide) (hg _ wg_266) (fun _ h9 => h9) rfl d_M_digit_140 ?_
              refine lv_if_le (tgt := 150) hx hb d_M_digit_143 (by decide) (fun c_11 => ?_) (fun c_11 => ?_)
              · skip
                exact absurd c_11 (by decide)
              · skip
                refine lv_iconst (v := 0) hx hb d_M_digit_146 (by decide) ?_
                refine lv_goto (tgt := 157) hx hb d_M_digit_147 (by decide) ?_
                subst ev_6
                subst ev_3
                have hP9 := hP.sub (ws' := [(g, .inr (2, [.int 1, .int am, .ref m1, .ref m2, .ref m3, .ref m4, .ref m5, .ref m6, .ref m7, .int wc, .ref m8])), (m1, .inl (cJ, 500, .inr (.inl up))), (m2, .inl (cJ, 500, .inr (.inl dn))), (m3, .inl (cI, 500, .inl mu))]) [0, 1, 2, 3] rfl
                have hD9 := hD.sub (ws' := [(g, .inr (2, [.int 1, .int am, .ref m1, .ref m2, .ref m3, .ref m4, .ref m5, .ref m6, .ref m7, .int wc, .ref m8])), (m1, .inl (cJ, 500, .inr (.inl up))), (m2, .inl (cJ, 500, .inr (.inl dn))), (m3, .inl (cI, 500, .inl mu))]) [0, 1, 2, 3] (by decide) rfl
                have hz : (0, (1, up, dn, mu, am)) = f_M_digit up dn mu am a pa i := by unfold f_M_digit; rw [if_neg c_1, if_pos c_2, if_pos c_4, if_pos c_7, if_neg c_8]
                exact W.iret (v := 0) hx hb hr (fun t ht hW => ⟨⟨0, (1, up, dn, mu, am), rfl, hz, wb_of ht hW hP9 hK hD9⟩, hS.F ht⟩) hS.2.2 d_M_digit_157
            · skip
              exact absurd c_10 (by decide)
        · skip
          refine lv_iload_n hx hb d_M_digit_95 rfl (lv_at hl 1 rfl) ?_
          refine lv_iload hx hb d_M_digit_96 (lv_at hl 3 rfl) ?_
          refine lv_icmp_lt (tgt := 105) hx hb d_M_digit_98 (by decide) (fun c_12 => ?_) (fun c_12 => ?_)
          · skip
            refine lv_iconst (v := 0) hx hb d_M_digit_105 (by decide) ?_
            refine va_put (D := (dC, dI)) (ci := 2) (v := .int 0) (ty := .int) (C := R_M) (T := F_M) (N := 11) hx hb hg in_M tt_M tt_M_ok nn_M hown hK hP hD hS 0 rfl rfl 0 (by decide) (hg _ wg_266) (fun _ h9 => h9) rfl (by decide +kernel) rfl rfl (Nat.le_of_ble_eq_true rfl) d_M_digit_106 (fun H locs hP hD hS => ?_)
            have hP : va_P (dC, dI) classes [(g, .inr (2, [.int 0, .int am, .ref m1, .ref m2, .ref m3, .ref m4, .ref m5, .ref m6, .ref m7, .int wc, .ref m8])), (m1, .inl (cJ, 500, .inr (.inl up))), (m2, .inl (cJ, 500, .inr (.inl dn))), (m3, .inl (cI, 500, .inl mu))] H := hP
            have hD : va_D A [(g, .inr (2, [.int 0, .int am, .ref m1, .ref m2, .ref m3, .ref m4, .ref m5, .ref m6, .ref m7, .int wc, .ref m8])), (m1, .inl (cJ, 500, .inr (.inl up))), (m2, .inl (cJ, 500, .inr (.inl dn))), (m3, .inl (cI, 500, .inl mu))] := hD
            refine lv_iconst (v := 0) hx hb d_M_digit_109 (by decide) ?_
            refine lv_istore (lv' := [(9, .int 0), (0, .ref g), (3, .int i), (6, .long v_6), (8, .int (nd_L 20 v_6 1))]) hx hb d_M_digit_110 hl (by decide) rfl (fun ls hl => ?_)
            obtain ⟨q, hq9, eq9⟩ := nI_of c_7
            have eq2 : i.toNatClampNeg = q := by rw [eq9]; exact nI_clamp hq9
            have eq4 : i = nI (0 + q) := by rw [Nat.zero_add]; exact eq9
            refine lp_M_digitB (am := am) (wc := wc) (g := g) (m1 := m1) (m2 := m2) (m3 := m3) (m4 := m4) (m5 := m5) (m6 := m6) (m7 := m7) (m8 := m8) hx hb hg hown hK (hP.sub [0] rfl) q 0 v_6 ls (by omega) (by rw [← eq4]; exact lv_sub hl [1, 2, 3, 0] rfl) (fun ls hl => ?_)
            rw [← eq2] at hl
            refine lv_aload_n hx hb d_M_digit_139 rfl (lv_at hl 0 rfl) ?_
            refine va_get (D := (dC, dI)) (ci := 2) (v := .int 0) (C := R_M) (T := F_M) (N := 11) hx hb hg in_M hown hK hP 0 rfl rfl 0 (by decide) (hg _ wg_266) (fun _ h9 => h9) rfl d_M_digit_140 ?_
            refine lv_if_le (tgt := 150) hx hb d_M_digit_143 (by decide) (fun c_13 => ?_) (fun c_13 => ?_)
            · skip
              refine lv_lload hx hb d_M_digit_150 (lv_at hl 1 rfl) ?_
              refine lv_ldc2 (v := 10) hx hb hown (hg _ wg_366) d_M_digit_152 ?_
              refine lv_lrem hx hb d_M_digit_155 (by decide) ?_
              refine lv_l2i hx hb d_M_digit_156 rfl ?_
              subst ev_6
              subst ev_3
              have hP9 := hP.sub (ws' := [(g, .inr (2, [.int 0, .int am, .ref m1, .ref m2, .ref m3, .ref m4, .ref m5, .ref m6, .ref m7, .int wc, .ref m8])), (m1, .inl (cJ, 500, .inr (.inl up))), (m2, .inl (cJ, 500, .inr (.inl dn))), (m3, .inl (cI, 500, .inl mu))]) [0, 1, 2, 3] rfl
              have hD9 := hD.sub (ws' := [(g, .inr (2, [.int 0, .int am, .ref m1, .ref m2, .ref m3, .ref m4, .ref m5, .ref m6, .ref m7, .int wc, .ref m8])), (m1, .inl (cJ, 500, .inr (.inl up))), (m2, .inl (cJ, 500, .inr (.inl dn))), (m3, .inl (cI, 500, .inl mu))]) [0, 1, 2, 3] (by decide) rfl
              have hz : (((it_10 i.toNatClampNeg ((up a.toNatClampNeg) / (dn a.toNatClampNeg))) - (it_10 i.toNatClampNeg ((up a.toNatClampNeg) / (dn a.toNatClampNeg))) / 10 * 10).toInt32, (0, up, dn, mu, am)) = f_M_digit up dn mu am a pa i := by unfold f_M_digit; rw [if_neg c_1, if_pos c_2, if_pos c_4, if_neg c_7, if_pos c_12]
              exact W.iret (v := ((it_10 i.toNatClampNeg ((up a.toNatClampNeg) / (dn a.toNatClampNeg))) - (it_10 i.toNatClampNeg ((up a.toNatClampNeg) / (dn a.toNatClampNeg))) / 10 * 10).toInt32) hx hb hr (fun t ht hW => ⟨⟨((it_10 i.toNatClampNeg ((up a.toNatClampNeg) / (dn a.toNatClampNeg))) - (it_10 i.toNatClampNeg ((up a.toNatClampNeg) / (dn a.toNatClampNeg))) / 10 * 10).toInt32, (0, up, dn, mu, am), rfl, hz, wb_of ht hW hP9 hK hD9⟩, hS.F ht⟩) hS.2.2 d_M_digit_157
            · skip
              exact absurd (by decide) c_13
          · skip
            refine lv_iconst (v := 1) hx hb d_M_digit_101 (by decide) ?_
            refine lv_goto (tgt := 106) hx hb d_M_digit_102 (by decide) ?_
            refine va_put (D := (dC, dI)) (ci := 2) (v := .int 1) (ty := .int) (C := R_M) (T := F_M) (N := 11) hx hb hg in_M tt_M tt_M_ok nn_M hown hK hP hD hS 0 rfl rfl 0 (by decide) (hg _ wg_266) (fun _ h9 => h9) rfl (by decide +kernel) rfl rfl (Nat.le_of_ble_eq_true rfl) d_M_digit_106 (fun H locs hP hD hS => ?_)
            have hP : va_P (dC, dI) classes [(g, .inr (2, [.int 1, .int am, .ref m1, .ref m2, .ref m3, .ref m4, .ref m5, .ref m6, .ref m7, .int wc, .ref m8])), (m1, .inl (cJ, 500, .inr (.inl up))), (m2, .inl (cJ, 500, .inr (.inl dn))), (m3, .inl (cI, 500, .inl mu))] H := hP
            have hD : va_D A [(g, .inr (2, [.int 1, .int am, .ref m1, .ref m2, .ref m3, .ref m4, .ref m5, .ref m6, .ref m7, .int wc, .ref m8])), (m1, .inl (cJ, 500, .inr (.inl up))), (m2, .inl (cJ, 500, .inr (.inl dn))), (m3, .inl (cI, 500, .inl mu))] := hD
            refine lv_iconst (v := 0) hx hb d_M_digit_109 (by decide) ?_
            refine lv_istore (lv' := [(9, .int 0), (0, .ref g), (3, .int i), (6, .long v_6), (8, .int (nd_L 20 v_6 1))]) hx hb d_M_digit_110 hl (by decide) rfl (fun ls hl => ?_)
            refine lv_iload hx hb d_M_digit_112 (lv_at hl 0 rfl) ?_
            refine lv_iload_n hx hb d_M_digit_114 rfl (lv_at hl 2 rfl) ?_
            refine lv_icmp_ge (tgt := 139) hx hb d_M_digit_115 (by decide) (fun c_14 => ?_) (fun c_14 => ?_)
            · skip
              refine lv_aload_n hx hb d_M_digit_139 rfl (lv_at hl 1 rfl) ?_
              refine va_get (D := (dC, dI)) (ci := 2) (v := .int 1) (C := R_M) (T := F_M) (N := 11) hx hb hg in_M hown hK hP 0 rfl rfl 0 (by decide) (hg _ wg_266) (fun _ h9 => h9) rfl d_M_digit_140 ?_
              refine lv_if_le (tgt := 150) hx hb d_M_digit_143 (by decide) (fun c_15 => ?_) (fun c_15 => ?_)
              · skip
                exact absurd c_15 (by decide)
              · skip
                refine lv_iconst (v := 0) hx hb d_M_digit_146 (by decide) ?_
                refine lv_goto (tgt := 157) hx hb d_M_digit_147 (by decide) ?_
                subst ev_6
                subst ev_3
                have hP9 := hP.sub (ws' := [(g, .inr (2, [.int 1, .int am, .ref m1, .ref m2, .ref m3, .ref m4, .ref m5, .ref m6, .ref m7, .int wc, .ref m8])), (m1, .inl (cJ, 500, .inr (.inl up))), (m2, .inl (cJ, 500, .inr (.inl dn))), (m3, .inl (cI, 500, .inl mu))]) [0, 1, 2, 3] rfl
                have hD9 := hD.sub (ws' := [(g, .inr (2, [.int 1, .int am, .ref m1, .ref m2, .ref m3, .ref m4, .ref m5, .ref m6, .ref m7, .int wc, .ref m8])), (m1, .inl (cJ, 500, .inr (.inl up))), (m2, .inl (cJ, 500, .inr (.inl dn))), (m3, .inl (cI, 500, .inl mu))]) [0, 1, 2, 3] (by decide) rfl
                have hz : (0, (1, up, dn, mu, am)) = f_M_digit up dn mu am a pa i := by unfold f_M_digit; rw [if_neg c_1, if_pos c_2, if_pos c_4, if_neg c_7, if_neg c_12, if_pos c_14]
                exact W.iret (v := 0) hx hb hr (fun t ht hW => ⟨⟨0, (1, up, dn, mu, am), rfl, hz, wb_of ht hW hP9 hK hD9⟩, hS.F ht⟩) hS.2.2 d_M_digit_157
            · skip
              refine lv_aload_n hx hb d_M_digit_118 rfl (lv_at hl 1 rfl) ?_
              refine va_get (D := (dC, dI)) (ci := 2) (v := .int 1) (C := R_M) (T := F_M) (N := 11) hx hb hg in_M hown hK hP 0 rfl rfl 0 (by decide) (hg _ wg_266) (fun _ h9 => h9) rfl d_M_digit_119 ?_
              refine lv_if_ne (tgt := 139) hx hb d_M_digit_122 (by decide) (fun c_16 => ?_) (fun c_16 => ?_)
              · skip
                refine lv_aload_n hx hb d_M_digit_139 rfl (lv_at hl 1 rfl) ?_
                refine va_get (D := (dC, dI)) (ci := 2) (v := .int 1) (C := R_M) (T := F_M) (N := 11) hx hb hg in_M hown hK hP 0 rfl rfl 0 (by decide) (hg _ wg_266) (fun _ h9 => h9) rfl d_M_digit_140 ?_
                refine lv_if_le (tgt := 150) hx hb d_M_digit_143 (by decide) (fun c_17 => ?_) (fun c_17 => ?_)
                · skip
                  exact absurd c_17 (by decide)
                · skip
                  refine lv_iconst (v := 0) hx hb d_M_digit_146 (by decide) ?_
                  refine lv_goto (tgt := 157) hx hb d_M_digit_147 (by decide) ?_
                  subst ev_6
                  subst ev_3
                  have hP9 := hP.sub (ws' := [(g, .inr (2, [.int 1, .int am, .ref m1, .ref m2, .ref m3, .ref m4, .ref m5, .ref m6, .ref m7, .int wc, .ref m8])), (m1, .inl (cJ, 500, .inr (.inl up))), (m2, .inl (cJ, 500, .inr (.inl dn))), (m3, .inl (cI, 500, .inl mu))]) [0, 1, 2, 3] rfl
                  have hD9 := hD.sub (ws' := [(g, .inr (2, [.int 1, .int am, .ref m1, .ref m2, .ref m3, .ref m4, .ref m5, .ref m6, .ref m7, .int wc, .ref m8])), (m1, .inl (cJ, 500, .inr (.inl up))), (m2, .inl (cJ, 500, .inr (.inl dn))), (m3, .inl (cI, 500, .inl mu))]) [0, 1, 2, 3] (by decide) rfl
                  have hz : (0, (1, up, dn, mu, am)) = f_M_digit up dn mu am a pa i := by unfold f_M_digit; rw [if_neg c_1, if_pos c_2, if_pos c_4, if_neg c_7, if_neg c_12, if_neg c_14]
                  exact W.iret (v := 0) hx hb hr (fun t ht hW => ⟨⟨0, (1, up, dn, mu, am), rfl, hz, wb_of ht hW hP9 hK hD9⟩, hS.F ht⟩) hS.2.2 d_M_digit_157
              · skip
                exact absurd c_16 (by decide)
    · skip
      rw [lg_cmp_ge] at c_2
      refine lv_aload_n hx hb d_M_digit_27 rfl (lv_at hl 0 rfl) ?_
      refine va_get (D := (dC, dI)) (ci := 2) (v := .ref m1) (C := R_M) (T := F_M) (N := 11) hx hb hg in_M hown hK hP 0 rfl rfl 2 (by decide) (hg _ wg_268) (fun _ h9 => h9) rfl d_M_digit_28 ?_
      refine lv_iload_n hx hb d_M_digit_31 rfl (lv_at hl 1 rfl) ?_
      refine va_lald hx hb hK hP 1 0 rfl rfl (mam_in c_1 ha) d_M_digit_32 ?_
      refine lv_lneg hx hb d_M_digit_33 ?_
      refine lv_goto (tgt := 43) hx hb d_M_digit_34 (by decide) ?_
      refine lv_topl (fun v_18 ev_18 => ?_)
      refine lv_lstore (lv' := [(4, .long v_18), (0, .ref g), (1, .int a), (2, .int pa), (3, .int i)]) hx hb d_M_digit_43 hl (by decide) rfl (fun ls hl => ?_)
      refine lv_iload_n hx hb d_M_digit_45 rfl (lv_at hl 3 rfl) ?_
      refine lv_if_ne (tgt := 158) hx hb d_M_digit_46 (by decide) (fun c_19 => ?_) (fun c_19 => ?_)
      · skip
        refine lv_lload hx hb d_M_digit_158 (lv_at hl 0 rfl) ?_
        refine lv_aload_n hx hb d_M_digit_160 rfl (lv_at hl 1 rfl) ?_
        refine va_get (D := (dC, dI)) (ci := 2) (v := .ref m2) (C := R_M) (T := F_M) (N := 11) hx hb hg in_M hown hK hP 0 rfl rfl 3 (by decide) (hg _ wg_269) (fun _ h9 => h9) rfl d_M_digit_161 ?_
        refine lv_iload_n hx hb d_M_digit_164 rfl (lv_at hl 2 rfl) ?_
        refine va_lald hx hb hK hP 2 0 rfl rfl (mam_in c_1 ha) d_M_digit_165 ?_
        refine lv_lrem hx hb d_M_digit_166 (hd c_1) ?_
        refine lv_topl (fun v_20 ev_20 => ?_)
        refine lv_lstore (lv' := [(6, .long v_20), (4, .long v_18), (0, .ref g), (1, .int a), (2, .int pa), (3, .int i)]) hx hb d_M_digit_167 hl (by decide) rfl (fun ls hl => ?_)
        refine lv_iconst (v := 0) hx hb d_M_digit_169 (by decide) ?_
        refine lv_istore (lv' := [(8, .int 0), (6, .long v_20), (4, .long v_18), (0, .ref g), (1, .int a), (2, .int pa), (3, .int i)]) hx hb d_M_digit_170 hl (by decide) rfl (fun ls hl => ?_)
        subst ev_20
        subst ev_18
        refine lp_M_digitC (am := am) (wc := wc) (dn := dn) (g := g) (m1 := m1) (m2 := m2) (m3 := m3) (m4 := m4) (m5 := m5) (m6 := m6) (m7 := m7) (m8 := m8) hx hb hg hown (mam_in c_1 ha) (hd c_1) hK (hP.sub [0, 2] rfl) 30 0 _ ls (by decide) (lv_sub hl [3, 4, 6, 1, 0] rfl) (fun ls v hdb hsz9 => ?_) (fun ls hdb hl => ?_)
        · skip
          have hP9 := hP.sub (ws' := [(g, .inr (2, [.int 0, .int am, .ref m1, .ref m2, .ref m3, .ref m4, .ref m5, .ref m6, .ref m7, .int wc, .ref m8])), (m1, .inl (cJ, 500, .inr (.inl up))), (m2, .inl (cJ, 500, .inr (.inl dn))), (m3, .inl (cI, 500, .inl mu))]) [0, 1, 2, 3] rfl
          have hD9 := hD.sub (ws' := [(g, .inr (2, [.int 0, .int am, .ref m1, .ref m2, .ref m3, .ref m4, .ref m5, .ref m6, .ref m7, .int wc, .ref m8])), (m1, .inl (cJ, 500, .inr (.inl up))), (m2, .inl (cJ, 500, .inr (.inl dn))), (m3, .inl (cI, 500, .inl mu))]) [0, 1, 2, 3] (by decide) rfl
          have hz : (v, (0, up, dn, mu, am)) = f_M_digit up dn mu am a pa i := by unfold f_M_digit; rw [if_neg c_1, if_neg c_2, if_neg c_19, hdb]
          exact W.iret (v := v) hx hb hr (fun t ht hW => ⟨⟨v, (0, up, dn, mu, am), rfl, hz, wb_of ht hW hP9 hK hD9⟩, hS.F ht⟩) hS.2.2 d_M_digit_210
        · skip
          refine lv_aload_n hx hb d_M_digit_228 rfl (lv_at hl 0 rfl) ?_
          refine lv_iconst (v := 1) hx hb d_M_digit_229 (by decide) ?_
          refine va_put (D := (dC, dI)) (ci := 2) (v := .int 1) (ty := .int) (C := R_M) (T := F_M) (N := 11) hx hb hg in_M tt_M tt_M_ok nn_M hown hK hP hD hS 0 rfl rfl 0 (by decide) (hg _ wg_266) (fun _ h9 => h9) rfl (by decide +kernel) rfl rfl (Nat.le_of_ble_eq_true rfl) d_M_digit_230 (fun H locs hP hD hS => ?_)
          have hP : va_P (dC, dI) classes [(g, .inr (2, [.int 1, .int am, .ref m1, .ref m2, .ref m3, .ref m4, .ref m5, .ref m6, .ref m7, .int wc, .ref m8])), (m1, .inl (cJ, 500, .inr (.inl up))), (m2, .inl (cJ, 500, .inr (.inl dn))), (m3, .inl (cI, 500, .inl mu))] H := hP
          have hD : va_D A [(g, .inr (2, [.int 1, .int am, .ref m1, .ref m2, .ref m3, .ref m4, .ref m5, .ref m6, .ref m7, .int wc, .ref m8])), (m1, .inl (cJ, 500, .inr (.inl up))), (m2, .inl (cJ, 500, .inr (.inl dn))), (m3, .inl (cI, 500, .inl mu))] := hD
          refine lv_iconst (v := 0) hx hb d_M_digit_233 (by decide) ?_
          have hP9 := hP.sub (ws' := [(g, .inr (2, [.int 1, .int am, .ref m1, .ref m2, .ref m3, .ref m4, .ref m5, .ref m6, .ref m7, .int wc, .ref m8])), (m1, .inl (cJ, 500, .inr (.inl up))), (m2, .inl (cJ, 500, .inr (.inl dn))), (m3, .inl (cI, 500, .inl mu))]) [0, 1, 2, 3] rfl
          have hD9 := hD.sub (ws' := [(g, .inr (2, [.int 1, .int am, .ref m1, .ref m2, .ref m3, .ref m4, .ref m5, .ref m6, .ref m7, .int wc, .ref m8])), (m1, .inl (cJ, 500, .inr (.inl up))), (m2, .inl (cJ, 500, .inr (.inl dn))), (m3, .inl (cI, 500, .inl mu))]) [0, 1, 2, 3] (by decide) rfl
          have hz : (0, (1, up, dn, mu, am)) = f_M_digit up dn mu am a pa i := by unfold f_M_digit; rw [if_neg c_1, if_neg c_2, if_neg c_19, hdb]
          exact W.iret (v := 0) hx hb hr (fun t ht hW => ⟨⟨0, (1, up, dn, mu, am), rfl, hz, wb_of ht hW hP9 hK hD9⟩, hS.F ht⟩) hS.2.2 d_M_digit_234
      · skip
        refine lv_lload hx hb d_M_digit_49 (lv_at hl 0 rfl) ?_
        refine lv_aload_n hx hb d_M_digit_51 rfl (lv_at hl 1 rfl) ?_
        refine va_get (D := (dC, dI)) (ci := 2) (v := .ref m2) (C := R_M) (T := F_M) (N := 11) hx hb hg in_M hown hK hP 0 rfl rfl 3 (by decide) (hg _ wg_269) (fun _ h9 => h9) rfl d_M_digit_52 ?_
        refine lv_iload_n hx hb d_M_digit_55 rfl (lv_at hl 2 rfl) ?_
        refine va_lald hx hb hK hP 2 0 rfl rfl (mam_in c_1 ha) d_M_digit_56 ?_
        refine lv_ldiv hx hb d_M_digit_57 (hd c_1) ?_
        refine lv_topl (fun v_21 ev_21 => ?_)
        refine lv_lstore (lv' := [(6, .long v_21), (4, .long v_18), (0, .ref g), (1, .int a), (2, .int pa), (3, .int i)]) hx hb d_M_digit_58 hl (by decide) rfl (fun ls hl => ?_)
        refine lv_iconst (v := 1) hx hb d_M_digit_60 (by decide) ?_
        refine lv_istore (lv' := [(8, .int 1), (6, .long v_21), (4, .long v_18), (0, .ref g), (1, .int a), (2, .int pa), (3, .int i)]) hx hb d_M_digit_61 hl (by decide) rfl (fun ls hl => ?_)
        refine lv_lload hx hb d_M_digit_63 (lv_at hl 1 rfl) ?_
        refine lv_lstore (lv' := [(9, .long v_21), (8, .int 1), (6, .long v_21), (4, .long v_18), (0, .ref g), (1, .int a), (2, .int pa), (3, .int i)]) hx hb d_M_digit_65 hl (by decide) rfl (fun ls hl => ?_)
        refine lp_M_digitA hx hb hg hown 20 v_21 1 ls (nd_Dall _) (lv_sub hl [4, 7, 2, 1, 0] rfl) (fun ls hl => ?_)
        refine lv_aload_n hx hb d_M_digit_90 rfl (lv_at hl 0 rfl) ?_
        refine lv_iload_n hx hb d_M_digit_91 rfl (lv_at hl 1 rfl) ?_
        refine lv_if_lt (tgt := 101) hx hb d_M_digit_92 (by decide) (fun c_22 => ?_) (fun c_22 => ?_)
        · skip
          refine lv_iconst (v := 1) hx hb d_M_digit_101 (by decide) ?_
          refine lv_goto (tgt := 106) hx hb d_M_digit_102 (by decide) ?_
          refine va_put (D := (dC, dI)) (ci := 2) (v := .int 1) (ty := .int) (C := R_M) (T := F_M) (N := 11) hx hb hg in_M tt_M tt_M_ok nn_M hown hK hP hD hS 0 rfl rfl 0 (by decide) (hg _ wg_266) (fun _ h9 => h9) rfl (by decide +kernel) rfl rfl (Nat.le_of_ble_eq_true rfl) d_M_digit_106 (fun H locs hP hD hS => ?_)
          have hP : va_P (dC, dI) classes [(g, .inr (2, [.int 1, .int am, .ref m1, .ref m2, .ref m3, .ref m4, .ref m5, .ref m6, .ref m7, .int wc, .ref m8])), (m1, .inl (cJ, 500, .inr (.inl up))), (m2, .inl (cJ, 500, .inr (.inl dn))), (m3, .inl (cI, 500, .inl mu))] H := hP
          have hD : va_D A [(g, .inr (2, [.int 1, .int am, .ref m1, .ref m2, .ref m3, .ref m4, .ref m5, .ref m6, .ref m7, .int wc, .ref m8])), (m1, .inl (cJ, 500, .inr (.inl up))), (m2, .inl (cJ, 500, .inr (.inl dn))), (m3, .inl (cI, 500, .inl mu))] := hD
          refine lv_iconst (v := 0) hx hb d_M_digit_109 (by decide) ?_
          refine lv_istore (lv' := [(9, .int 0), (0, .ref g), (3, .int i), (6, .long v_21), (8, .int (nd_L 20 v_21 1))]) hx hb d_M_digit_110 hl (by decide) rfl (fun ls hl => ?_)
          refine lv_iload hx hb d_M_digit_112 (lv_at hl 0 rfl) ?_
          refine lv_iload_n hx hb d_M_digit_114 rfl (lv_at hl 2 rfl) ?_
          refine lv_icmp_ge (tgt := 139) hx hb d_M_digit_115 (by decide) (fun c_23 => ?_) (fun c_23 => ?_)
          · skip
            refine lv_aload_n hx hb d_M_digit_139 rfl (lv_at hl 1 rfl) ?_
            refine va_get (D := (dC, dI)) (ci := 2) (v := .int 1) (C := R_M) (T := F_M) (N := 11) hx hb hg in_M hown hK hP 0 rfl rfl 0 (by decide) (hg _ wg_266) (fun _ h9 => h9) rfl d_M_digit_140 ?_
            refine lv_if_le (tgt := 150) hx hb d_M_digit_143 (by decide) (fun c_24 => ?_) (fun c_24 => ?_)
            · skip
              exact absurd c_24 (by decide)
            · skip
              refine lv_iconst (v := 0) hx hb d_M_digit_146 (by decide) ?_
              refine lv_goto (tgt := 157) hx hb d_M_digit_147 (by decide) ?_
              subst ev_21
              subst ev_18
              have hP9 := hP.sub (ws' := [(g, .inr (2, [.int 1, .int am, .ref m1, .ref m2, .ref m3, .ref m4, .ref m5, .ref m6, .ref m7, .int wc, .ref m8])), (m1, .inl (cJ, 500, .inr (.inl up))), (m2, .inl (cJ, 500, .inr (.inl dn))), (m3, .inl (cI, 500, .inl mu))]) [0, 1, 2, 3] rfl
              have hD9 := hD.sub (ws' := [(g, .inr (2, [.int 1, .int am, .ref m1, .ref m2, .ref m3, .ref m4, .ref m5, .ref m6, .ref m7, .int wc, .ref m8])), (m1, .inl (cJ, 500, .inr (.inl up))), (m2, .inl (cJ, 500, .inr (.inl dn))), (m3, .inl (cI, 500, .inl mu))]) [0, 1, 2, 3] (by decide) rfl
              have hz : (0, (1, up, dn, mu, am)) = f_M_digit up dn mu am a pa i := by unfold f_M_digit; rw [if_neg c_1, if_neg c_2, if_pos c_19, if_pos c_22, if_pos c_23]
              exact W.iret (v := 0) hx hb hr (fun t ht hW => ⟨⟨0, (1, up, dn, mu, am), rfl, hz, wb_of ht hW hP9 hK hD9⟩, hS.F ht⟩) hS.2.2 d_M_digit_157
          · skip
            refine lv_aload_n hx hb d_M_digit_118 rfl (lv_at hl 1 rfl) ?_
            refine va_get (D := (dC, dI)) (ci := 2) (v := .int 1) (C := R_M) (T := F_M) (N := 11) hx hb hg in_M hown hK hP 0 rfl rfl 0 (by decide) (hg _ wg_266) (fun _ h9 => h9) rfl d_M_digit_119 ?_
            refine lv_if_ne (tgt := 139) hx hb d_M_digit_122 (by decide) (fun c_25 => ?_) (fun c_25 => ?_)
            · skip
              refine lv_aload_n hx hb d_M_digit_139 rfl (lv_at hl 1 rfl) ?_
              refine va_get (D := (dC, dI)) (ci := 2) (v := .int 1) (C := R_M) (T := F_M) (N := 11) hx hb hg in_M hown hK hP 0 rfl rfl 0 (by decide) (hg _ wg_266) (fun _ h9 => h9) rfl d_M_digit_140 ?_
              refine lv_if_le (tgt := 150) hx hb d_M_digit_143 (by decide) (fun c_26 => ?_) (fun c_26 => ?_)
              · skip
                exact absurd c_26 (by decide)
              · skip
                refine lv_iconst (v := 0) hx hb d_M_digit_146 (by decide) ?_
                refine lv_goto (tgt := 157) hx hb d_M_digit_147 (by decide) ?_
                subst ev_21
                subst ev_18
                have hP9 := hP.sub (ws' := [(g, .inr (2, [.int 1, .int am, .ref m1, .ref m2, .ref m3, .ref m4, .ref m5, .ref m6, .ref m7, .int wc, .ref m8])), (m1, .inl (cJ, 500, .inr (.inl up))), (m2, .inl (cJ, 500, .inr (.inl dn))), (m3, .inl (cI, 500, .inl mu))]) [0, 1, 2, 3] rfl
                have hD9 := hD.sub (ws' := [(g, .inr (2, [.int 1, .int am, .ref m1, .ref m2, .ref m3, .ref m4, .ref m5, .ref m6, .ref m7, .int wc, .ref m8])), (m1, .inl (cJ, 500, .inr (.inl up))), (m2, .inl (cJ, 500, .inr (.inl dn))), (m3, .inl (cI, 500, .inl mu))]) [0, 1, 2, 3] (by decide) rfl
                have hz : (0, (1, up, dn, mu, am)) = f_M_digit up dn mu am a pa i := by unfold f_M_digit; rw [if_neg c_1, if_neg c_2, if_pos c_19, if_pos c_22, if_neg c_23]
                exact W.iret (v := 0) hx hb hr (fun t ht hW => ⟨⟨0, (1, up, dn, mu, am), rfl, hz, wb_of ht hW hP9 hK hD9⟩, hS.F ht⟩) hS.2.2 d_M_digit_157
            · skip
              exact absurd c_25 (by decide)
        · skip
          refine lv_iload_n hx hb d_M_digit_95 rfl (lv_at hl 1 rfl) ?_
          refine lv_iload hx hb d_M_digit_96 (lv_at hl 3 rfl) ?_
          refine lv_icmp_lt (tgt := 105) hx hb d_M_digit_98 (by decide) (fun c_27 => ?_) (fun c_27 => ?_)
          · skip
            refine lv_iconst (v := 0) hx hb d_M_digit_105 (by decide) ?_
            refine va_put (D := (dC, dI)) (ci := 2) (v := .int 0) (ty := .int) (C := R_M) (T := F_M) (N := 11) hx hb hg in_M tt_M tt_M_ok nn_M hown hK hP hD hS 0 rfl rfl 0 (by decide) (hg _ wg_266) (fun _ h9 => h9) rfl (by decide +kernel) rfl rfl (Nat.le_of_ble_eq_true rfl) d_M_digit_106 (fun H locs hP hD hS => ?_)
            have hP : va_P (dC, dI) classes [(g, .inr (2, [.int 0, .int am, .ref m1, .ref m2, .ref m3, .ref m4, .ref m5, .ref m6, .ref m7, .int wc, .ref m8])), (m1, .inl (cJ, 500, .inr (.inl up))), (m2, .inl (cJ, 500, .inr (.inl dn))), (m3, .inl (cI, 500, .inl mu))] H := hP
            have hD : va_D A [(g, .inr (2, [.int 0, .int am, .ref m1, .ref m2, .ref m3, .ref m4, .ref m5, .ref m6, .ref m7, .int wc, .ref m8])), (m1, .inl (cJ, 500, .inr (.inl up))), (m2, .inl (cJ, 500, .inr (.inl dn))), (m3, .inl (cI, 500, .inl mu))] := hD
            refine lv_iconst (v := 0) hx hb d_M_digit_109 (by decide) ?_
            refine lv_istore (lv' := [(9, .int 0), (0, .ref g), (3, .int i), (6, .long v_21), (8, .int (nd_L 20 v_21 1))]) hx hb d_M_digit_110 hl (by decide) rfl (fun ls hl => ?_)
            obtain ⟨q, hq9, eq9⟩ := nI_of c_22
            have eq2 : i.toNatClampNeg = q := by rw [eq9]; exact nI_clamp hq9
            have eq4 : i = nI (0 + q) := by rw [Nat.zero_add]; exact eq9
            refine lp_M_digitB (am := am) (wc := wc) (g := g) (m1 := m1) (m2 := m2) (m3 := m3) (m4 := m4) (m5 := m5) (m6 := m6) (m7 := m7) (m8 := m8) hx hb hg hown hK (hP.sub [0] rfl) q 0 v_21 ls (by omega) (by rw [← eq4]; exact lv_sub hl [1, 2, 3, 0] rfl) (fun ls hl => ?_)
            rw [← eq2] at hl
            refine lv_aload_n hx hb d_M_digit_139 rfl (lv_at hl 0 rfl) ?_
            refine va_get (D := (dC, dI)) (ci := 2) (v := .int 0) (C := R_M) (T := F_M) (N := 11) hx hb hg in_M hown hK hP 0 rfl rfl 0 (by decide) (hg _ wg_266) (fun _ h9 => h9) rfl d_M_digit_140 ?_
            refine lv_if_le (tgt := 150) hx hb d_M_digit_143 (by decide) (fun c_28 => ?_) (fun c_28 => ?_)
            · skip
              refine lv_lload hx hb d_M_digit_150 (lv_at hl 1 rfl) ?_
              refine lv_ldc2 (v := 10) hx hb hown (hg _ wg_366) d_M_digit_152 ?_
              refine lv_lrem hx hb d_M_digit_155 (by decide) ?_
              refine lv_l2i hx hb d_M_digit_156 rfl ?_
              subst ev_21
              subst ev_18
              have hP9 := hP.sub (ws' := [(g, .inr (2, [.int 0, .int am, .ref m1, .ref m2, .ref m3, .ref m4, .ref m5, .ref m6, .ref m7, .int wc, .ref m8])), (m1, .inl (cJ, 500, .inr (.inl up))), (m2, .inl (cJ, 500, .inr (.inl dn))), (m3, .inl (cI, 500, .inl mu))]) [0, 1, 2, 3] rfl
              have hD9 := hD.sub (ws' := [(g, .inr (2, [.int 0, .int am, .ref m1, .ref m2, .ref m3, .ref m4, .ref m5, .ref m6, .ref m7, .int wc, .ref m8])), (m1, .inl (cJ, 500, .inr (.inl up))), (m2, .inl (cJ, 500, .inr (.inl dn))), (m3, .inl (cI, 500, .inl mu))]) [0, 1, 2, 3] (by decide) rfl
              have hz : (((it_10 i.toNatClampNeg ((-(up a.toNatClampNeg)) / (dn a.toNatClampNeg))) - (it_10 i.toNatClampNeg ((-(up a.toNatClampNeg)) / (dn a.toNatClampNeg))) / 10 * 10).toInt32, (0, up, dn, mu, am)) = f_M_digit up dn mu am a pa i := by unfold f_M_digit; rw [if_neg c_1, if_neg c_2, if_pos c_19, if_neg c_22, if_pos c_27]
              exact W.iret (v := ((it_10 i.toNatClampNeg ((-(up a.toNatClampNeg)) / (dn a.toNatClampNeg))) - (it_10 i.toNatClampNeg ((-(up a.toNatClampNeg)) / (dn a.toNatClampNeg))) / 10 * 10).toInt32) hx hb hr (fun t ht hW => ⟨⟨((it_10 i.toNatClampNeg ((-(up a.toNatClampNeg)) / (dn a.toNatClampNeg))) - (it_10 i.toNatClampNeg ((-(up a.toNatClampNeg)) / (dn a.toNatClampNeg))) / 10 * 10).toInt32, (0, up, dn, mu, am), rfl, hz, wb_of ht hW hP9 hK hD9⟩, hS.F ht⟩) hS.2.2 d_M_digit_157
            · skip
              exact absurd (by decide) c_28
          · skip
            refine lv_iconst (v := 1) hx hb d_M_digit_101 (by decide) ?_
            refine lv_goto (tgt := 106) hx hb d_M_digit_102 (by decide) ?_
            refine va_put (D := (dC, dI)) (ci := 2) (v := .int 1) (ty := .int) (C := R_M) (T := F_M) (N := 11) hx hb hg in_M tt_M tt_M_ok nn_M hown hK hP hD hS 0 rfl rfl 0 (by decide) (hg _ wg_266) (fun _ h9 => h9) rfl (by decide +kernel) rfl rfl (Nat.le_of_ble_eq_true rfl) d_M_digit_106 (fun H locs hP hD hS => ?_)
            have hP : va_P (dC, dI) classes [(g, .inr (2, [.int 1, .int am, .ref m1, .ref m2, .ref m3, .ref m4, .ref m5, .ref m6, .ref m7, .int wc, .ref m8])), (m1, .inl (cJ, 500, .inr (.inl up))), (m2, .inl (cJ, 500, .inr (.inl dn))), (m3, .inl (cI, 500, .inl mu))] H := hP
            have hD : va_D A [(g, .inr (2, [.int 1, .int am, .ref m1, .ref m2, .ref m3, .ref m4, .ref m5, .ref m6, .ref m7, .int wc, .ref m8])), (m1, .inl (cJ, 500, .inr (.inl up))), (m2, .inl (cJ, 500, .inr (.inl dn))), (m3, .inl (cI, 500, .inl mu))] := hD
            refine lv_iconst (v := 0) hx hb d_M_digit_109 (by decide) ?_
            refine lv_istore (lv' := [(9, .int 0), (0, .ref g), (3, .int i), (6, .long v_21), (8, .int (nd_L 20 v_21 1))]) hx hb d_M_digit_110 hl (by decide) rfl (fun ls hl => ?_)
            refine lv_iload hx hb d_M_digit_112 (lv_at hl 0 rfl) ?_
            refine lv_iload_n hx hb d_M_digit_114 rfl (lv_at hl 2 rfl) ?_
            refine lv_icmp_ge (tgt := 139) hx hb d_M_digit_115 (by decide) (fun c_29 => ?_) (fun c_29 => ?_)
            · skip
              refine lv_aload_n hx hb d_M_digit_139 rfl (lv_at hl 1 rfl) ?_
              refine va_get (D := (dC, dI)) (ci := 2) (v := .int 1) (C := R_M) (T := F_M) (N := 11) hx hb hg in_M hown hK hP 0 rfl rfl 0 (by decide) (hg _ wg_266) (fun _ h9 => h9) rfl d_M_digit_140 ?_
              refine lv_if_le (tgt := 150) hx hb d_M_digit_143 (by decide) (fun c_30 => ?_) (fun c_30 => ?_)
              · skip
                exact absurd c_30 (by decide)
              · skip
                refine lv_iconst (v := 0) hx hb d_M_digit_146 (by decide) ?_
                refine lv_goto (tgt := 157) hx hb d_M_digit_147 (by decide) ?_
                subst ev_21
                subst ev_18
                have hP9 := hP.sub (ws' := [(g, .inr (2, [.int 1, .int am, .ref m1, .ref m2, .ref m3, .ref m4, .ref m5, .ref m6, .ref m7, .int wc, .ref m8])), (m1, .inl (cJ, 500, .inr (.inl up))), (m2, .inl (cJ, 500, .inr (.inl dn))), (m3, .inl (cI, 500, .inl mu))]) [0, 1, 2, 3] rfl
                have hD9 := hD.sub (ws' := [(g, .inr (2, [.int 1, .int am, .ref m1, .ref m2, .ref m3, .ref m4, .ref m5, .ref m6, .ref m7, .int wc, .ref m8])), (m1, .inl (cJ, 500, .inr (.inl up))), (m2, .inl (cJ, 500, .inr (.inl dn))), (m3, .inl (cI, 500, .inl mu))]) [0, 1, 2, 3] (by decide) rfl
                have hz : (0, (1, up, dn, mu, am)) = f_M_digit up dn mu am a pa i := by unfold f_M_digit; rw [if_neg c_1, if_neg c_2, if_pos c_19, if_neg c_22, if_neg c_27, if_pos c_29]
                exact W.iret (v := 0) hx hb hr (fun t ht hW => ⟨⟨0, (1, up, dn, mu, am), rfl, hz, wb_of ht hW hP9 hK hD9⟩, hS.F ht⟩) hS.2.2 d_M_digit_157
            · skip
              refine lv_aload_n hx hb d_M_digit_118 rfl (lv_at hl 1 rfl) ?_
              refine va_get (D := (dC, dI)) (ci := 2) (v := .int 1) (C := R_M) (T := F_M) (N := 11) hx hb hg in_M hown hK hP 0 rfl rfl 0 (by decide) (hg _ wg_266) (fun _ h9 => h9) rfl d_M_digit_119 ?_
              refine lv_if_ne (tgt := 139) hx hb d_M_digit_122 (by decide) (fun c_31 => ?_) (fun c_31 => ?_)
              · skip
                refine lv_aload_n hx hb d_M_digit_139 rfl (lv_at hl 1 rfl) ?_
                refine va_get (D := (dC, dI)) (ci := 2) (v := .int 1) (C := R_M) (T := F_M) (N := 11) hx hb hg in_M hown hK hP 0 rfl rfl 0 (by decide) (hg _ wg_266) (fun _ h9 => h9) rfl d_M_digit_140 ?_
                refine lv_if_le (tgt := 150) hx hb d_M_digit_143 (by decide) (fun c_32 => ?_) (fun c_32 => ?_)
                · skip
                  exact absurd c_32 (by decide)
                · skip
                  refine lv_iconst (v := 0) hx hb d_M_digit_146 (by decide) ?_
                  refine lv_goto (tgt := 157) hx hb d_M_digit_147 (by decide) ?_
                  subst ev_21
                  subst ev_18
                  have hP9 := hP.sub (ws' := [(g, .inr (2, [.int 1, .int am, .ref m1, .ref m2, .ref m3, .ref m4, .ref m5, .ref m6, .ref m7, .int wc, .ref m8])), (m1, .inl (cJ, 500, .inr (.inl up))), (m2, .inl (cJ, 500, .inr (.inl dn))), (m3, .inl (cI, 500, .inl mu))]) [0, 1, 2, 3] rfl
                  have hD9 := hD.sub (ws' := [(g, .inr (2, [.int 1, .int am, .ref m1, .ref m2, .ref m3, .ref m4, .ref m5, .ref m6, .ref m7, .int wc, .ref m8])), (m1, .inl (cJ, 500, .inr (.inl up))), (m2, .inl (cJ, 500, .inr (.inl dn))), (m3, .inl (cI, 500, .inl mu))]) [0, 1, 2, 3] (by decide) rfl
                  have hz : (0, (1, up, dn, mu, am)) = f_M_digit up dn mu am a pa i := by unfold f_M_digit; rw [if_neg c_1, if_neg c_2, if_pos c_19, if_neg c_22, if_neg c_27, if_neg c_29]
                  exact W.iret (v := 0) hx hb hr (fun t ht hW => ⟨⟨0, (1, up, dn, mu, am), rfl, hz, wb_of ht hW hP9 hK hD9⟩, hS.F ht⟩) hS.2.2 d_M_digit_157
              · skip
                exact absurd c_31 (by decide)
  · skip
    refine lv_bipush (v := (-3)) hx hb d_M_digit_13 (by decide) ?_
    have hP9 := hP.sub (ws' := [(g, .inr (2, [.int 0, .int am, .ref m1, .ref m2, .ref m3, .ref m4, .ref m5, .ref m6, .ref m7, .int wc, .ref m8])), (m1, .inl (cJ, 500, .inr (.inl up))), (m2, .inl (cJ, 500, .inr (.inl dn))), (m3, .inl (cI, 500, .inl mu))]) [0, 1, 2, 3] rfl
    have hD9 := hD.sub (ws' := [(g, .inr (2, [.int 0, .int am, .ref m1, .ref m2, .ref m3, .ref m4, .ref m5, .ref m6, .ref m7, .int wc, .ref m8])), (m1, .inl (cJ, 500, .inr (.inl up))), (m2, .inl (cJ, 500, .inr (.inl dn))), (m3, .inl (cI, 500, .inl mu))]) [0, 1, 2, 3] (by decide) rfl
    have hz : ((-3), (0, up, dn, mu, am)) = f_M_digit up dn mu am a pa i := by unfold f_M_digit; rw [if_pos c_1]
    exact W.iret (v := (-3)) hx hb hr (fun t ht hW => ⟨⟨(-3), (0, up, dn, mu, am), rfl, hz, wb_of ht hW hP9 hK hD9⟩, hS.F ht⟩) hS.2.2 d_M_digit_15
