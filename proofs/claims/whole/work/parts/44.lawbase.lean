/-! THE CLAIM OUT OF ONE WALK OF THE LAW'S BODY. Your part is whole_start (and what it stands on); all else here is the same for every law, but numbers. -/
def R_law : String := "LitreFractionsLaw"
def lw_P (b : Addr) (xs : List Int32) (args : Array Value) (s : State) : Prop := args = #[.ref b] ∧ s.IntsAt b xs ∧ xs.length ≤ 4096 ∧ (Jvm.Cond.and given_1 narrow_1).before args s = true
def lw_Q (_ : Array Value) (s : State) (o : Outcome) (t : State) : Prop := o = .returned (some (.int 1)) ∧ Framed s o t [] 601024 7293034
def lw_Z (below : List Frame) (a : Array Value) (s : State) : State → Prop := fun t => ∃ o, t.status = .running ∧ Ended t below o ∧ lw_Q a s o t
/-- the law's own end, with 1 on the stack, nothing written that was there before, its room as the claim has it -/
theorem lw_ret {p : Program} {l : Launch} {e : Env} {s : State} {m : MethodId} {below : List Frame} {meth : Method} {c : Code} {b : Nat} (hx : p.tables.exec = Jvm.exec) (hb : c.code = code) (hr : meth.sig.returnType = ret) (hlocks : meth.locks = false) {pc : Nat} {H : Heap} {ls : Array Slot} (hdg : decode code pc = .ok (.ireturn, 1)) : W p l e room_1 s m #[Value.ref b] below meth c H [] 601024 7293034 (lw_Z below #[Value.ref b] s) (F0 m pc ls [.int 1]) := by
  intro T hT X
  obtain ⟨fs, hret, hrun, hended, hW, hframe⟩ := X.leave (v := some (.int 1)) (hlocks := hlocks) (fun h => by rw [hr] at h; cases h)
  have hmeth' : T.vm.method? m = some meth := X.method'
  refine ⟨T.setFrames fs, ?_, .returned (some (.int 1)), hrun, hended, rfl, ⟨_, rfl⟩, hW, hframe⟩
  jvm_step X.here [X.here.top, hx, hb, hdg, hmeth', hr, ret, narrow_b1]
  (try refine ⟨rfl, ?_⟩); (try refine ⟨rfl, ?_⟩)
  first | (intro acts; rw [hret _ acts rfl rfl rfl]) | rw [hret _ _ rfl rfl rfl]
  exact Steps.refl _
/-- what holds at the law's entry: the machine, the code, the tables' words (any of lw_tbl by 'hts w (by decide +kernel)'), the script of L ints xs at the cell b, what the Statement gives of the start (any of its parts by flat_of_before) -/
def lw_At (p : Program) (s : State) (m : MethodId) (meth : Method) (c : Code) (b L : Nat) (xs : Nat → Int32) : Prop :=
  p.tables.exec = Jvm.exec ∧ c.code = code ∧ meth.sig.returnType = ret ∧ c.maxLocals = 7 ∧ s.vm.findClass R_law = some m.cls ∧ (∀ w ∈ lw_tbl, w.before #[Value.ref b] s = true) ∧ va_X b L xs s s.heap ∧ b < s.heap.size ∧ meth.locks = false ∧ (Jvm.Cond.and given_1 narrow_1).before #[Value.ref b] s = true
section LBASE
variable {p : Program} {l : Launch} {e : Env} {R : Room} {s : State} {m : MethodId} {args : Array Value} {below : List Frame} {meth : Method} {c : Code} {H : Heap} {locs : List Loc} {cells slots : Nat} {Q : State → Prop}
/-- a read of the script, its value by name -/
theorem l_sld {cc : ByteArray} {pc : Nat} {ls : Array Slot} {rest : List Value} {A : Nat → Prop} {H0 : Heap} (hexec : p.tables.exec = Jvm.exec) (hb : c.code = cc) {b L : Nat} {xs : Nat → Int32} (hX : va_X b L xs s H0) (hbl : b < H0.size) (hbA : ¬ A b) (hS : va_S A H0 H locs) {i v : Int32} (hin : vp_in i L) (hv : xs i.toNatClampNeg = v) (hdg : decode cc pc = .ok (.iaload, 1)) (kk : W p l e R s m args below meth c H locs cells slots Q (F0 m (pc + 1) ls (.int v :: rest))) : W p l e R s m args below meth c H locs cells slots Q (F0 m pc ls (.int i :: .ref b :: rest)) := va_sld hexec hb hX hbl hbA hS hin hdg (by rw [hv]; exact kk)
end LBASE
theorem in_I {I L k : Nat} (h : I + 8 ≤ L) (hL : L ≤ 4096) (hk : k < 8) : vp_in (nI I + nI k) L := by
  rw [nI_add]
  exact vp_in_nI (by omega) (by omega)
theorem lp_in {I L : Nat} (hI : I ≤ L) (hL : L ≤ 4096) (c : ¬ Int32.ofNat L - 8 < nI I) : I + 8 ≤ L := by
  have e1 : (Int32.ofNat L).toInt = (L : Int) := nI_toInt (n := L) (by omega)
  have e2 : (nI I).toInt = (I : Int) := nI_toInt (by omega)
  have e8 : (8 : Int32).toInt = 8 := rfl
  have e3 : (Int32.ofNat L - 8).toInt = (L : Int) - 8 := by rw [Jvm.Kit.i32_sub (by omega) (by omega), e1, e8]
  rw [Int32.lt_iff_toInt_lt, e3, e2] at c
  omega
theorem q_SW {own : String} {index maxL : Nat} {y : MethodName} {bytes : ByteArray} {rt : Option FieldType} {hh : List (Nat × Nat × Nat × Nat)} (h1 : Cond.codeWith y bytes maxL rt hh ∈ WG) (h2 : Cond.methodLink own index y ∈ WG) (h3 : Cond.static y ∈ WG) (h4 : Cond.initialized y.cls ∈ WG) : GoodIn WG (va_wsS own index y (Cond.codeWith y bytes maxL rt hh :: WG)) := by
  have h : ∀ w ∈ va_wsS own index y (Cond.codeWith y bytes maxL rt hh :: WG), w ∈ WG := by
    unfold va_wsS
    exact List.forall_mem_append.mpr ⟨List.forall_mem_cons.mpr ⟨h2, List.forall_mem_cons.mpr ⟨h3, List.forall_mem_cons.mpr ⟨h4, fun _ q => absurd q List.not_mem_nil⟩⟩⟩, List.forall_mem_cons.mpr ⟨h1, fun _ q => q⟩⟩
  exact fun w hw => ⟨h w hw, (WG_ok w (h w hw)).2⟩
theorem wgc_L_value : Cond.codeWith y_L_value c_L_value 8 (Option.some Jvm.ClassFile.FieldType.int) [(0, 13, 16, 13)] ∈ WG := WG_at 200 rfl rfl
theorem wgc_L_over : Cond.codeWith y_L_over c_L_over 5 (Option.some Jvm.ClassFile.FieldType.int) [(0, 10, 13, 13)] ∈ WG := WG_at 280 rfl rfl
theorem wgc_L_digit : Cond.codeWith y_L_digit c_L_digit 6 (Option.some Jvm.ClassFile.FieldType.int) [(0, 12, 15, 23)] ∈ WG := WG_at 291 rfl rfl
/-- all that is made after the start -/
abbrev lA (s : State) : Nat → Prop := fun q : Nat => s.heap.size ≤ q
/-- both objects and the answer's cell -/
def LW (cJ cI cT : ClassId) (h g ao : Nat) (u v : Nat → Nat) (n : Int32) (k : Int32) (cd : Int32) (ab : Nat → Int64) (be : Nat → Int64) (un : Nat → Int32) (we : Nat → Int64) (tx : Nat → Nat → Int64) (ty : Nat → Nat → Int64) (tb : Nat → Int64) (tc : Nat → Int32) (up : Nat → Int64) (dn : Nat → Int64) (mu : Nat → Int32) (rw_ : Nat → Int32) (mx : Nat → Int64) (my : Nat → Int64) (bl : Nat → Int64) (mw : Nat → Int64) (o : Nat → Int64) : va_W := [(h, .inr (1, [.ref (u 0), .ref (u 1), .ref (u 2), .int n, .ref (u 3), .int k, .ref (u 4)])), ((u 0), .inl (cJ, 500, .inr (.inl ab))), ((u 1), .inl (cJ, 500, .inr (.inl be))), ((u 2), .inl (cI, 500, .inl un)), ((u 3), .inl (cJ, 16, .inr (.inl we))), ((u 4), .inl (cT, 4, .inr (.inr (.inr (.inr (tf0 (u 5) (u 6) (u 7) (u 8))))))), ((u 5), .inr (0, [.ref (u 9), .ref (u 13), .long (tb 0), .int (tc 0)])), ((u 9), .inl (cJ, 16, .inr (.inl (tx 0)))), ((u 13), .inl (cJ, 16, .inr (.inl (ty 0)))), ((u 6), .inr (0, [.ref (u 10), .ref (u 14), .long (tb 1), .int (tc 1)])), ((u 10), .inl (cJ, 16, .inr (.inl (tx 1)))), ((u 14), .inl (cJ, 16, .inr (.inl (ty 1)))), ((u 7), .inr (0, [.ref (u 11), .ref (u 15), .long (tb 2), .int (tc 2)])), ((u 11), .inl (cJ, 16, .inr (.inl (tx 2)))), ((u 15), .inl (cJ, 16, .inr (.inl (ty 2)))), ((u 8), .inr (0, [.ref (u 12), .ref (u 16), .long (tb 3), .int (tc 3)])), ((u 12), .inl (cJ, 16, .inr (.inl (tx 3)))), ((u 16), .inl (cJ, 16, .inr (.inl (ty 3)))), (g, .inr (2, [.int cd, .int n, .ref (v 0), .ref (v 1), .ref (v 2), .ref (v 3), .ref (v 4), .ref (v 5), .ref (v 6), .int k, .ref (v 7)])), ((v 0), .inl (cJ, 500, .inr (.inl up))), ((v 1), .inl (cJ, 500, .inr (.inl dn))), ((v 2), .inl (cI, 500, .inl mu)), ((v 3), .inl (cI, 4, .inl rw_)), ((v 4), .inl (cJ, 64, .inr (.inl mx))), ((v 5), .inl (cJ, 64, .inr (.inl my))), ((v 6), .inl (cJ, 4, .inr (.inl bl))), ((v 7), .inl (cJ, 16, .inr (.inl mw))), (ao, .inl (cJ, 1, .inr (.inl o)))]
/-- the law's own invariant: both sides' cells, alike -/
def LI (s : State) (dC : Nat → ClassId) (dI : Nat → Nat → Nat) (cJ cI cT : ClassId) (h g ao : Nat) (H : Heap) (locs : List Loc) : Prop := ∃ (u v : Nat → Nat) (n : Int32) (k : Int32) (cd : Int32) (ab : Nat → Int64) (be : Nat → Int64) (un : Nat → Int32) (we : Nat → Int64) (tx : Nat → Nat → Int64) (ty : Nat → Nat → Int64) (tb : Nat → Int64) (tc : Nat → Int32) (up : Nat → Int64) (dn : Nat → Int64) (mu : Nat → Int32) (rw_ : Nat → Int32) (mx : Nat → Int64) (my : Nat → Int64) (bl : Nat → Int64) (mw : Nat → Int64) (o : Nat → Int64), va_P (dC, dI) classes (LW cJ cI cT h g ao u v n k cd ab be un we tx ty tb tc up dn mu rw_ mx my bl mw o) H ∧ va_D (lA s) (LW cJ cI cT h g ao u v n k cd ab be un we tx ty tb tc up dn mu rw_ mx my bl mw o) ∧ va_S (lA s) s.heap H locs ∧ IA ab be up dn un mu n ∧ IW we mw k ∧ ∀ t : Nat, t < 4 → IT (tx t) (ty t) (tb t) (tc t) rw_ mx my bl t
theorem LI_S {s : State} {dC : Nat → ClassId} {dI : Nat → Nat → Nat} {cJ cI cT : ClassId} {h g ao : Nat} {H : Heap} {locs : List Loc} (hi : LI s dC dI cJ cI cT h g ao H locs) : va_S (lA s) s.heap H locs := by
  obtain ⟨u, v, n, k, cd, ab, be, un, we, tx, ty, tb, tc, up, dn, mu, rw_, mx, my, bl, mw, o, hP, hD, hS, hR⟩ := hi
  exact hS
/-- what holds of the launch and of the start -/
def LE0 (l : Launch) (s : State) (dC : Nat → ClassId) (dI : Nat → Nat → Nat) (cJ cI cT : ClassId) : Prop := l.stackTraces = false ∧ va_K (dC, dI) classes (TY cJ cI cT) s ∧ nwd s ∧ ∃ sa1 sa2 sa3 : Nat, thr (lA s) 32 "below is 0" sa1 s ∧ thr (lA s) 56 "the divisor is 0" sa2 s ∧ thr (lA s) 132 "there is no such digit" sa3 s
/-- what is behind a case -/
def LK (p : Program) (l : Launch) (e : Env) (s : State) (m : MethodId) (below : List Frame) (meth : Method) (c : Code) (b : Nat) (dC : Nat → ClassId) (dI : Nat → Nat → Nat) (cJ cI cT : ClassId) (h g ao I cells slots : Nat) : Prop := ∀ (H : Heap) (locs : List Loc) (ls : Array Slot), LI s dC dI cJ cI cT h g ao H locs → lv_has ls 7 [(0, .ref b), (1, .ref h), (2, .ref g), (3, .ref ao), (4, .int (nI I))] → W p l e room_1 s m #[Value.ref b] below meth c H locs (cells + 1) (slots + 6) (lw_Z below #[Value.ref b] s) (F0 m 933 ls [])
def up4 {α : Type} (f : Nat → α) (t : Nat) (x : α) : Nat → α := fun i => if i = t then x else f i
theorem up4_s {α : Type} (f : Nat → α) (t : Nat) (x : α) : up4 f t x t = x := if_pos rfl
theorem up4_n {α : Type} {f : Nat → α} {t j : Nat} {x : α} (h : ¬ j = t) : up4 f t x j = f j := if_neg h
theorem tab_0 (a b c d : Nat) : f_X_tableAt (tf0 a b c d) (nI 0) = some a := by
  unfold f_X_tableAt
  rw [if_neg (by decide), if_neg (by decide), nI_clamp (by decide)]
  rfl
theorem tab_1 (a b c d : Nat) : f_X_tableAt (tf0 a b c d) (nI 1) = some b := by
  unfold f_X_tableAt
  rw [if_neg (by decide), if_neg (by decide), nI_clamp (by decide)]
  rfl
theorem tab_2 (a b c d : Nat) : f_X_tableAt (tf0 a b c d) (nI 2) = some c := by
  unfold f_X_tableAt
  rw [if_neg (by decide), if_neg (by decide), nI_clamp (by decide)]
  rfl
theorem tab_3 (a b c d : Nat) : f_X_tableAt (tf0 a b c d) (nI 3) = some d := by
  unfold f_X_tableAt
  rw [if_neg (by decide), if_neg (by decide), nI_clamp (by decide)]
  rfl
theorem tab_out {tf : Nat → Option Nat} {a : Int32} (h : a < 0 ∨ 4 ≤ a) : f_X_tableAt tf a = none := by
  unfold f_X_tableAt
  by_cases c : a < 0
  · rw [if_pos c]
  · rw [if_neg c, if_pos (h.resolve_left c)]
theorem out_no {a : Int32} (h : a < 0 ∨ 4 ≤ a) (h0 : ¬ a < 0) (h4 : a < 4) : False := by
  rcases h with h | h
  · exact h0 h
  · rw [Int32.lt_iff_toInt_lt] at h4
    rw [Int32.le_iff_toInt_le] at h
    omega
theorem hr4_of {tx ty : Nat → Nat → Int64} {tb : Nat → Int64} {tc rw_ : Nat → Int32} {mx my bl : Nat → Int64} (hIT : ∀ t : Nat, t < 4 → IT (tx t) (ty t) (tb t) (tc t) rw_ mx my bl t) : ∀ j : Nat, j < 4 → 0 ≤ (rw_ j).toInt ∧ (rw_ j).toInt ≤ 16 := fun j hj => by
  obtain ⟨h0, h1, h2, -⟩ := hIT j hj
  rw [h2]
  exact ⟨h0, h1⟩
theorem cl_IT {tx ty : Nat → Nat → Int64} {tb : Nat → Int64} {rw_ : Nat → Int32} {mx my bl : Nat → Int64} : ∀ t : Nat, t < 4 → IT (tx t) (ty t) (tb t) ((fun _ => 0 : Nat → Int32) t) (upd (upd (upd (upd rw_ (0 : Int32).toNatClampNeg 0) (1 : Int32).toNatClampNeg 0) (2 : Int32).toNatClampNeg 0) (3 : Int32).toNatClampNeg 0) mx my bl t := fun t ht => by
  refine IT_0 ?_
  rcases (show t = 0 ∨ t = 1 ∨ t = 2 ∨ t = 3 by omega) with rfl | rfl | rfl | rfl <;> rfl
theorem AG_use {P : Int32 × (Nat → Int64) × (Nat → Int64) × (Nat → Int32) × Int32} {Q : Int32 × Int32 × (Nat → Int64) × (Nat → Int64) × (Nat → Int32) × Int32} {r1 r2 cd2 n2 am2 : Int32} {ab2 be2 up2 dn2 : Nat → Int64} {un2 mu2 : Nat → Int32} (h : AG P Q) (h1 : (r1, ab2, be2, un2, n2) = P) (h2 : (r2, cd2, up2, dn2, mu2, am2) = Q) : r1 = r2 ∧ n2 = am2 ∧ IA ab2 be2 up2 dn2 un2 mu2 n2 := by
  obtain ⟨r, ab, be, up, dn, un, mu, n, e1, e2, hI⟩ := h
  rw [← h1] at e1
  rw [← h2] at e2
  cases e1
  cases e2
  exact ⟨rfl, rfl, hI⟩
theorem AG_same {α : Type} {V r2 : α} {Q : α × Int32 × (Nat → Int64) × (Nat → Int64) × (Nat → Int32) × Int32} {cd2 am2 : Int32} {up2 dn2 : Nat → Int64} {mu2 : Nat → Int32} {ab be up dn : Nat → Int64} {un mu : Nat → Int32} {n : Int32} (h : Q = (V, 0, up, dn, mu, n)) (hI : IA ab be up dn un mu n) (h2 : (r2, cd2, up2, dn2, mu2, am2) = Q) : r2 = V ∧ n = am2 ∧ IA ab be up2 dn2 un mu2 n := by
  rw [h] at h2
  cases h2
  exact ⟨rfl, rfl, hI⟩
theorem HV_use {E : Int32} {P : Int32 × (Nat → Int64) × (Nat → Int64) × (Nat → Int32) × Int32} {Q : Int32 × Int32 × (Nat → Int64) × (Nat → Int64) × (Nat → Int32) × Int32} {r1 r2 cd2 n2 am2 : Int32} {ab2 be2 up2 dn2 : Nat → Int64} {un2 mu2 : Nat → Int32} {ab be up dn : Nat → Int64} {un mu : Nat → Int32} {n : Int32} {o o2 : Nat → Int64} (HE : E = 0 ∨ E = 1) (H1 : E = 1 → Q = (0, 1, up, dn, mu, n)) (H0 : E = 0 → AG P Q) (hI : IA ab be up dn un mu n) (hx : r1 = E ∧ (E = 0 → ∃ v : Int32, (v, ab2, be2, un2, n2) = P ∧ o2 = vp_updL o (0 : Int32).toNatClampNeg v.toInt64) ∧ (E = 1 → (o2, ab2, be2, un2, n2) = (o, ab, be, un, n))) (hm : (r2, cd2, up2, dn2, mu2, am2) = Q) : cd2 = r1 ∧ n2 = am2 ∧ IA ab2 be2 up2 dn2 un2 mu2 n2 ∧ (r1 = 0 → o2 (0 : Int32).toNatClampNeg = r2.toInt64) := by
  obtain ⟨x1, x2, x3⟩ := hx
  rcases HE with e | e
  · obtain ⟨v, y1, y2⟩ := x2 e
    obtain ⟨r, ab3, be3, up3, dn3, un3, mu3, n3, e1, e2, hI2⟩ := H0 e
    rw [← y1] at e1
    rw [← hm] at e2
    cases e1
    cases e2
    refine ⟨by rw [x1, e], rfl, hI2, fun _ => ?_⟩
    rw [y2]
    exact if_pos rfl
  · rw [H1 e] at hm
    cases hm
    cases x3 e
    refine ⟨by rw [x1, e], rfl, hI, fun h => ?_⟩
    rw [x1, e] at h
    exact absurd h (by decide)
theorem DG_use {E V : Int32} {Q : Int32 × Int32 × (Nat → Int64) × (Nat → Int64) × (Nat → Int32) × Int32} {r1 r2 cd2 am2 : Int32} {up2 dn2 : Nat → Int64} {mu2 : Nat → Int32} {ab be up dn : Nat → Int64} {un mu : Nat → Int32} {n : Int32} {o o2 : Nat → Int64} {z : Unit} (HE : E = 0 ∨ E = 1) (h : (E = 1 → Q = (0, 1, up, dn, mu, n)) ∧ (E = 0 → Q = (V, 0, up, dn, mu, n))) (hI : IA ab be up dn un mu n) (hx : r1 = E ∧ (E = 0 → ∃ v : Int32, v = V ∧ o2 = vp_updL o (0 : Int32).toNatClampNeg v.toInt64) ∧ (E = 1 → (o2, z) = (o, ()))) (hm : (r2, cd2, up2, dn2, mu2, am2) = Q) : cd2 = r1 ∧ n = am2 ∧ IA ab be up2 dn2 un mu2 n ∧ (r1 = 0 → o2 (0 : Int32).toNatClampNeg = r2.toInt64) := by
  obtain ⟨x1, x2, x3⟩ := hx
  rcases HE with e | e
  · obtain ⟨v, y1, y2⟩ := x2 e
    rw [h.2 e] at hm
    cases hm
    refine ⟨by rw [x1, e], rfl, hI, fun _ => ?_⟩
    rw [y2, y1]
    exact if_pos rfl
  · rw [h.1 e] at hm
    cases hm
    refine ⟨by rw [x1, e], rfl, hI, fun h => ?_⟩
    rw [x1, e] at h
    exact absurd h (by decide)
theorem WW_use {we mw we2 mw2 : Nat → Int64} {k r1 r2 cd2 k2 wc2 : Int32} {w : Int64} (h : IW we mw k) (hX : (r1, we2, k2) = f_X_weight we k w) (hM : (r2, cd2, mw2, wc2) = f_M_weight mw k w) : r1 = r2 ∧ k2 = wc2 ∧ IW we2 mw2 k2 := by
  obtain ⟨r, we3, mw3, k3, e1, e2, h3⟩ := weight_ag (w := w) h
  rw [← hX] at e1
  rw [← hM] at e2
  cases e1
  cases e2
  exact ⟨rfl, rfl, h3⟩
theorem RO_use {tx ty : Nat → Nat → Int64} {tb : Nat → Int64} {tc rw_ : Nat → Int32} {mx my bl : Nat → Int64} {rw2 : Nat → Int32} {mx2 my2 bl2 : Nat → Int64} {r2 cd2 t_ : Int32} {x y b : Int64} (hO : t_ < 0 ∨ 4 ≤ t_) (hIT : ∀ t : Nat, t < 4 → IT (tx t) (ty t) (tb t) (tc t) rw_ mx my bl t) (hM : (r2, cd2, rw2, mx2, my2, bl2) = f_M_row rw_ mx my bl t_ x y b) : r2 = 0 ∧ ∀ t : Nat, t < 4 → IT (tx t) (ty t) (tb t) (tc t) rw2 mx2 my2 bl2 t := by
  rw [row_out hO] at hM
  cases hM
  exact ⟨rfl, hIT⟩
theorem RW_use {tx ty : Nat → Nat → Int64} {tb : Nat → Int64} {tc rw_ : Nat → Int32} {mx my bl : Nat → Int64} {rw2 : Nat → Int32} {mx2 my2 bl2 tx2 ty2 : Nat → Int64} {tb2 : Int64} {r1 r2 cd2 tc2 : Int32} {t : Nat} {x y b : Int64} (ht : t < 4) (hIT : ∀ t : Nat, t < 4 → IT (tx t) (ty t) (tb t) (tc t) rw_ mx my bl t) (hX : (r1, tx2, ty2, tb2, tc2) = f_X_row (tx t) (ty t) (tb t) (tc t) x y b) (hM : (r2, cd2, rw2, mx2, my2, bl2) = f_M_row rw_ mx my bl (nI t) x y b) : r1 = r2 ∧ ∀ j : Nat, j < 4 → IT (up4 tx t tx2 j) (up4 ty t ty2 j) (up4 tb t tb2 j) (up4 tc t tc2 j) rw2 mx2 my2 bl2 j := by
  obtain ⟨r, xs3, ys3, tb3, tc3, rw3, mx3, my3, bl3, e1, e2, h1, h2⟩ := row_ag (x := x) (y := y) (b := b) ht (hIT t ht)
  rw [← hX] at e1
  rw [← hM] at e2
  cases e1
  cases e2
  refine ⟨rfl, fun j hj => ?_⟩
  by_cases e : j = t
  · rw [e, up4_s, up4_s, up4_s, up4_s]
    exact h1
  · rw [up4_n e, up4_n e, up4_n e, up4_n e]
    exact IT_k hj e h2 (hIT j hj)
theorem e_value01 (ab be : Nat → Int64) (un : Nat → Int32) (n : Int32) (x y : Int64) (z : Int32) : (e_X_value ab be un n x y z = 0 ∨ e_X_value ab be un n x y z = 1) ∧ (e_X_value ab be un n x y z = 1 → y = 0) ∧ (e_X_value ab be un n x y z = 0 → ¬ y = 0) := by
  rw [e_value]
  by_cases c : y = 0
  · rw [if_pos c]
    exact ⟨Or.inr rfl, fun _ => c, fun q => absurd q (by decide)⟩
  · rw [if_neg c]
    exact ⟨Or.inl rfl, fun q => absurd q (by decide), fun _ => c⟩
theorem e_over01 (ab be : Nat → Int64) (un : Nat → Int32) (n a b : Int32) : e_X_over ab be un n a b = 0 ∨ e_X_over ab be un n a b = 1 := by
  unfold e_X_over
  repeat' split
  all_goals first | exact Or.inl rfl | exact Or.inr rfl
theorem e_digit01 (ab be : Nat → Int64) (n a pa i : Int32) : e_X_digit ab be n a pa i = 0 ∨ e_X_digit ab be n a pa i = 1 := by
  unfold e_X_digit
  repeat' split
  all_goals first | exact Or.inl rfl | exact Or.inr rfl
