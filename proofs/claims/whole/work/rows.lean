section
-- ===== PART A: goes FIRST, ahead of the names: the tables' words, and 'selects' of the private methods out of them =====
/-- a private method of a class that the tables say can be made, by its rows of tables_1 -/
def lw_okq (q : MethodName × Nat) : Prop := (q.1.cls ≠ "java/lang/invoke/MethodHandle" ∧ q.1.cls ≠ "java/lang/invoke/VarHandle") ∧ Cond.instantiable q.1.cls q.2 ∈ tables_1 ∧ Cond.privateMethod q.1 ∈ tables_1 ∧ Cond.instanceMethod q.1 ∈ tables_1
theorem lw_p0 : lw_okq (⟨"LitreFractions", "isAmount", "(I)Z"⟩, 7) := ⟨⟨by decide +kernel, by decide +kernel⟩, List.mem_of_getElem? (i := 12) (by decide +kernel), List.mem_of_getElem? (i := 72) (by decide +kernel), List.mem_of_getElem? (i := 73) (by decide +kernel)⟩
theorem lw_p1 : lw_okq (⟨"LitreFractions", "keep", "(JJI)I"⟩, 7) := ⟨⟨by decide +kernel, by decide +kernel⟩, List.mem_of_getElem? (i := 12) (by decide +kernel), List.mem_of_getElem? (i := 76) (by decide +kernel), List.mem_of_getElem? (i := 77) (by decide +kernel)⟩
theorem lw_p2 : lw_okq (⟨"LitreFractions", "tableAt", "(I)LLitreFractions$Table;"⟩, 7) := ⟨⟨by decide +kernel, by decide +kernel⟩, List.mem_of_getElem? (i := 12) (by decide +kernel), List.mem_of_getElem? (i := 130) (by decide +kernel), List.mem_of_getElem? (i := 131) (by decide +kernel)⟩
theorem lw_p3 : lw_okq (⟨"LitreFractions$Table", "takes", "(JJJ)Z"⟩, 4) := ⟨⟨by decide +kernel, by decide +kernel⟩, List.mem_of_getElem? (i := 21) (by decide +kernel), List.mem_of_getElem? (i := 134) (by decide +kernel), List.mem_of_getElem? (i := 135) (by decide +kernel)⟩
theorem lw_p4 : lw_okq (⟨"LitreFractions$Table", "append", "(JJJ)V"⟩, 4) := ⟨⟨by decide +kernel, by decide +kernel⟩, List.mem_of_getElem? (i := 21) (by decide +kernel), List.mem_of_getElem? (i := 144) (by decide +kernel), List.mem_of_getElem? (i := 145) (by decide +kernel)⟩
theorem lw_p5 : lw_okq (⟨"LitreFractions$Table", "firstNotBefore", "(JJ)I"⟩, 4) := ⟨⟨by decide +kernel, by decide +kernel⟩, List.mem_of_getElem? (i := 21) (by decide +kernel), List.mem_of_getElem? (i := 152) (by decide +kernel), List.mem_of_getElem? (i := 153) (by decide +kernel)⟩
theorem lw_p6 : lw_okq (⟨"LitreFractions", "keepBetween", "(LLitreFractions$Table;II)I"⟩, 7) := ⟨⟨by decide +kernel, by decide +kernel⟩, List.mem_of_getElem? (i := 12) (by decide +kernel), List.mem_of_getElem? (i := 156) (by decide +kernel), List.mem_of_getElem? (i := 157) (by decide +kernel)⟩
theorem lw_p7 : lw_okq (⟨"LitreFractions", "sumOfWeights", "()J"⟩, 7) := ⟨⟨by decide +kernel, by decide +kernel⟩, List.mem_of_getElem? (i := 12) (by decide +kernel), List.mem_of_getElem? (i := 169) (by decide +kernel), List.mem_of_getElem? (i := 170) (by decide +kernel)⟩
theorem lw_p8 : lw_okq (⟨"LitreFractions", "thousandthsOf", "(IJJ)J"⟩, 7) := ⟨⟨by decide +kernel, by decide +kernel⟩, List.mem_of_getElem? (i := 12) (by decide +kernel), List.mem_of_getElem? (i := 174) (by decide +kernel), List.mem_of_getElem? (i := 175) (by decide +kernel)⟩
theorem lw_p9 : lw_okq (⟨"java/lang/Throwable", "fillInStackTrace", "(I)Ljava/lang/Throwable;"⟩, 6) := ⟨⟨by decide +kernel, by decide +kernel⟩, List.mem_of_getElem? (i := 232) (by decide +kernel), List.mem_of_getElem? (i := 230) (by decide +kernel), List.mem_of_getElem? (i := 231) (by decide +kernel)⟩
theorem lw_p10 : lw_okq (⟨"LitreFractionsModel", "make", "(JJI)I"⟩, 11) := ⟨⟨by decide +kernel, by decide +kernel⟩, List.mem_of_getElem? (i := 309) (by decide +kernel), List.mem_of_getElem? (i := 359) (by decide +kernel), List.mem_of_getElem? (i := 360) (by decide +kernel)⟩
theorem lw_p11 : lw_okq (⟨"LitreFractionsModel", "isAmount", "(I)Z"⟩, 11) := ⟨⟨by decide +kernel, by decide +kernel⟩, List.mem_of_getElem? (i := 309) (by decide +kernel), List.mem_of_getElem? (i := 372) (by decide +kernel), List.mem_of_getElem? (i := 373) (by decide +kernel)⟩
def lw_privs_1 : List (MethodName × Nat) := [(⟨"LitreFractions", "isAmount", "(I)Z"⟩, 7), (⟨"LitreFractions", "keep", "(JJI)I"⟩, 7), (⟨"LitreFractions", "tableAt", "(I)LLitreFractions$Table;"⟩, 7), (⟨"LitreFractions$Table", "takes", "(JJJ)Z"⟩, 4), (⟨"LitreFractions$Table", "append", "(JJJ)V"⟩, 4), (⟨"LitreFractions$Table", "firstNotBefore", "(JJ)I"⟩, 4), (⟨"LitreFractions", "keepBetween", "(LLitreFractions$Table;II)I"⟩, 7), (⟨"LitreFractions", "sumOfWeights", "()J"⟩, 7), (⟨"LitreFractions", "thousandthsOf", "(IJJ)J"⟩, 7), (⟨"java/lang/Throwable", "fillInStackTrace", "(I)Ljava/lang/Throwable;"⟩, 6), (⟨"LitreFractionsModel", "make", "(JJI)I"⟩, 11), (⟨"LitreFractionsModel", "isAmount", "(I)Z"⟩, 11)]
theorem lw_r1 : ∀ q ∈ lw_privs_1, lw_okq q := List.forall_mem_cons.mpr ⟨lw_p0, List.forall_mem_cons.mpr ⟨lw_p1, List.forall_mem_cons.mpr ⟨lw_p2, List.forall_mem_cons.mpr ⟨lw_p3, List.forall_mem_cons.mpr ⟨lw_p4, List.forall_mem_cons.mpr ⟨lw_p5, List.forall_mem_cons.mpr ⟨lw_p6, List.forall_mem_cons.mpr ⟨lw_p7, List.forall_mem_cons.mpr ⟨lw_p8, List.forall_mem_cons.mpr ⟨lw_p9, List.forall_mem_cons.mpr ⟨lw_p10, List.forall_mem_cons.mpr ⟨lw_p11, fun _ h => absurd h List.not_mem_nil⟩⟩⟩⟩⟩⟩⟩⟩⟩⟩⟩⟩
def lw_privs : List (MethodName × Nat) := lw_privs_1
def lw_tbl : List Cond := k2_sels lw_privs ++ tables_1
theorem lw_privs_ok : ∀ q ∈ lw_privs, lw_okq q := lw_r1
end
section
/-! ===== BEGIN words of one list among another's, by their places ===== -/
theorem goodIn_r {big : List Cond} (ws : List Cond) (ps : List Nat) (hp : ws = ps.filterMap (fun i => big[i]?)) (h : ws.all goodWord = true) : GoodIn big ws := by
  intro w hw
  have h1 := List.all_eq_true.mp h w hw
  rw [hp] at hw
  obtain ⟨i, -, hi⟩ := List.mem_filterMap.mp hw
  have hm : w ∈ big := by first | exact List.mem_of_getElem? hi | exact List.getElem?_mem hi
  exact ⟨hm, good_of_word h1⟩
theorem goodIn_app {big a b : List Cond} (ha : GoodIn big a) (hb : GoodIn big b) : GoodIn big (a ++ b) := fun w h => (List.mem_append.mp h).elim (ha w) (hb w)
theorem goodIn_ca {big a b : List Cond} {c : Cond} (ha : GoodIn big (c :: a)) (hb : GoodIn big b) : GoodIn big (c :: (a ++ b)) := fun w h => (List.mem_cons.mp h).elim (fun e => ha w (List.mem_cons.mpr (Or.inl e))) (fun h => (List.mem_append.mp h).elim (fun h => ha w (List.mem_cons.mpr (Or.inr h))) (hb w))
theorem goodIn_sub {big ws : List Cond} (hm : ∀ w ∈ ws, w ∈ big) (h : ws.all goodWord = true) : GoodIn big ws := fun w hw => ⟨hm w hw, good_of_word (List.all_eq_true.mp h w hw)⟩
/-! ===== END ===== -/

/-! ===== BEGIN exceptions that leave a method, and their catching by the caller (launches without stack traces) ===== -/
section VXA
/-! The laws vx_back, vx_callV, vx_callS, vx_callSW, vx_throw0, vx_throwS follow proofs of the library, with one case more: JvmDerived/Free/Laws.lean (Back.of_free), Shelf42/LK1.lean (callV, callS), Shelf/KitTraced.lean (throwNew0V, throwNewS). -/
/-- where a method has thrown q: the class by its name, the cell, what was written, the world -/
def vx_T (XC : String → State → State → Prop) (st : State) (q : Addr) (t : State) (mc ms : Nat) (free : Addr → Prop) : Prop :=
  ∃ (E : String) (ce : Cell) (L : List Loc), XC E st t ∧ t.heap[q]? = some ce ∧ ce.vm = .none ∧ st.vm.findClass E = some ce.cls ∧ st.WarmedH t.vm ∧ st.sameButNew ({ t with vm := st.vm } : State) L mc ms ∧ ∀ z ∈ L, free z.base
def vx_Q (Qc : Array Value → State → Outcome → State → Prop) (XC : String → State → State → Prop) (mc ms : Nat) (free : Addr → Prop) : Array Value → State → Outcome → State → Prop := fun a st o t =>
  (Qc a st o t ∧ ∃ L, FrameEnd st o t L mc ms ∧ ∀ q ∈ L, free q.base) ∨ ∃ q, o = .threw q ∧ vx_T XC st q t mc ms free
/-- a callee that returns or throws -/
def vx_Met (l : Launch) (y : MethodName) (ws : List Cond) (rm : Room) (Pc : Array Value → State → Prop) (Qc : Array Value → State → Outcome → State → Prop) (XC : String → State → State → Prop) (mc ms : Nat) (free : Addr → Prop) : Prop :=
  MetFree l y (headSpec ws rm) Pc (fun _ _ _ _ _ => True) (vx_Q Qc XC mc ms free)
def vx_Post (XC : String → State → State → Prop) (mc ms : Nat) (free : Addr → Prop) : Pt → Array Value → Addr → Pt → Prop := fun A a q B =>
  ∃ (g : JFrame) (mk : MethodId) (t : State) (L : List Loc) (E : String) (ce : Cell), B.U.heap = t.heap ∧ B.U.vm = t.vm ∧ XC E (A.U.calling g mk a) t ∧ t.heap[q]? = some ce ∧ ce.vm = .none ∧ A.U.vm.findClass E = some ce.cls ∧ B.locs = A.locs ++ L ∧ (∀ z ∈ L, free z.base) ∧ B.cells = A.cells + mc ∧ B.slots = A.slots + ms
def vx_Back (l : Launch) (R : Room) (p : Program) (e : Env) (below : List Frame) (s : State) (sargs : Array Value) (y : MethodName) (len W9 : Nat)
    (Pre : Pt → Array Value → Prop) (Post : Pt → Array Value → Option Value → Pt → Prop) (PostX : Pt → Array Value → Addr → Pt → Prop) : Prop :=
  ∀ (m : MethodId) (meth : Method) (c : Code) (A : Pt) (g : JFrame) (ig : Instr) (mk : MethodId) (a : Array Value),
    Stand p l e R s m sargs below meth c A.U A.locs A.cells A.slots → g.method = m → g.locals.size = c.maxLocals → decode c.code g.pc = .ok (ig, len) →
    2 * g.monitorRoom + (g.stack.map fun v => v.category).sum ≤ W9 → A.U.methodNamed? y = some mk → Pre A a →
    (∃ (v : Option Value) (B : Pt), Stand p l e R s m sargs below meth c B.U B.locs B.cells B.slots ∧ Post A a v B ∧
      Steps p.tables e below (doInvoke e (A.U.setTop g) [] mk a).1 (B.U.setTop { g with pc := g.pc + len, stack := v.toList ++ g.stack })) ∨
    (∃ (q : Addr) (B : Pt), Stand p l e R s m sargs below meth c B.U B.locs B.cells B.slots ∧ PostX A a q B ∧
      Steps p.tables e below (doInvoke e (A.U.setTop g) [] mk a).1 ((B.U.setTop g).pushFrame (.throwing q)))
section Payer
variable {l : Launch} {R : Room} {p : Program} {e : Env} {below : List Frame} {s : State} {sargs : Array Value} {y : MethodName} {len W9 : Nat}
theorem vx_back {ws : List Cond} {rm : Room} {Pc : Array Value → State → Prop} {Qc : Array Value → State → Outcome → State → Prop} {XC : String → State → State → Prop} {mc ms : Nat} {free : Addr → Prop} {bytes : ByteArray} {maxL : Nat} {ret : Option FieldType}
    (hM : vx_Met l y ws rm Pc Qc XC mc ms free) (hblind : FrameBlind Pc) (hrc : rm.cells = mc) (hrs : rm.slots = ms)
    (hframes : rm.frames + 1 ≤ R.frames) (hlocals : W9 + (maxL + 11) + rm.locals ≤ R.locals)
    (hws : ∀ w ∈ ws, ∀ a' U, s.WarmedH U.vm → w.before a' U = true) (hcode : Cond.code y bytes maxL ret ∈ ws) (hinit : ∀ a' U, s.WarmedH U.vm → (Cond.initialized y.cls).before a' U = true) :
    vx_Back l R p e below s sargs y len W9 (PreOf R mc ms Pc) (PostOf Qc mc ms free) (vx_Post XC mc ms free) := by
  intro m meth c A g ig mk a X hg hsize hdg hW hn hp
  have h1 : (headSpec ws rm).pre.before a A.U = true := atoms_intro fun w hw => hws w hw _ _ X.warmed
  have h2 : (Cond.code y bytes maxL ret).before a A.U = true := hws _ hcode _ _ X.warmed
  have h3 : (Cond.initialized y.cls).before a A.U = true := hinit _ _ X.warmed
  have h4 : A.cells + (headSpec ws rm).room.cells ≤ R.cells := by rw [show (headSpec ws rm).room.cells = mc from hrc]; exact hp.1
  have h5 : A.slots + (headSpec ws rm).room.slots ≤ R.slots := by rw [show (headSpec ws rm).room.slots = ms from hrs]; exact hp.2.1
  have hPc : Pc a (A.U.calling g mk a) := hblind _ _ _ _ hp.2.2
  obtain ⟨U, Ls, c0, s0⟩ := A
  dsimp only [Pt.U, Pt.locs, Pt.cells, Pt.slots] at h1 h2 h3 h4 h5 X hn hPc ⊢
  obtain ⟨methY, cY, hmY, hcY, -, hlY, -, -, -, -⟩ := Cond.code_spec hn h2
  obtain ⟨kY, hkY, -⟩ := className_of_methodNamed hn
  have hinitY : kY.init = .initialized := Cond.initialized_spec (findClass_of_methodNamed hn) hkY h3
  have h : At U g.method c below := by rw [hg]; exact X.here
  have hlocals9 : W9 + (maxL + 11) + (headSpec ws rm).room.locals ≤ R.locals := hlocals
  have happ : (headSpec ws rm).appliesLoose y e.platform (U.calling g mk a) = true :=
    Spec.appliesLoose_calling (g := g) h hdg hn hkY hinitY
      (X.room_calling (g := g) (R' := (headSpec ws rm).room) hsize hmY hcY hframes (by rw [hlY]; omega) h4 h5) h1
  obtain ⟨mid, hmid⟩ := h.above
  have hfr : (U.setTop g).frames = (.java g :: mid) ++ below := by rw [State.frames_setTop' g h.top, hmid]; rfl
  obtain ⟨o, s₂, hsteps, -, hend, hq⟩ := Steps.callFree hM p X.admits X.cas X.clock (acts := []) hfr happ hPc trivial
  have hq' : vx_Q Qc XC mc ms free a (U.calling g mk a) o s₂ := hq
  rw [State.frames_setTop' g h.top] at hend
  obtain ⟨g₀, hg0⟩ := Option.isSome_iff_exists.mp h.top
  obtain ⟨r, hr⟩ := State.topJava?_eq_some.mp hg0
  have hr' : (({ U with heap := s₂.heap, slotsUsed := s₂.slotsUsed } : State).setVm s₂.vm).frames = .java g₀ :: r := hr
  rcases hq' with ⟨hqc, L, hfe, hL⟩ | ⟨q, rfl, E, ce, L, hx, hce, hcv, hcl, hW₂, hsm, hL⟩
  · obtain ⟨⟨v, rfl⟩, hW₂, e2, q2, q3, q4, q5, q6⟩ := id hfe
    have e3 : s₂ = ({ (U.calling g mk a).setFrames s₂.frames with heap := s₂.heap, slotsUsed := s₂.slotsUsed } : State).setVm s₂.vm := by
      have : s₂ = ({ s₂ with vm := (U.calling g mk a).vm } : State).setVm s₂.vm := rfl
      rw [e2] at this
      exact this
    obtain ⟨c₂, i₂, len₂, hc₂, hd₂, hf₂⟩ := hend
    have hW' : U.WarmedH s₂.vm := hW₂
    have hcc : c₂ = c := by
      have h1 : s₂.code? g.method = U.code? g.method := by
        rw [State.code?_eq, State.code?_eq, hW'.alike.method?]
      exact Option.some.inj (hc₂.symm.trans (h1.trans h.code))
    subst hcc
    have hlen : len₂ = len := by rw [hdg] at hd₂; cases hd₂; rfl
    subst hlen
    have hs₂ : s₂ = (({ U with heap := s₂.heap, slotsUsed := s₂.slotsUsed } : State).setVm s₂.vm).setTop { g with pc := g.pc + len₂, stack := v.toList ++ g.stack } := by
      refine e3.trans ?_
      rw [hf₂, State.calling_eq h.top, State.setFrames_setFrames, State.setTop_of_frames _ hr', hr]
      rfl
    have hsame : U.sameButNew ({ U with heap := s₂.heap, slotsUsed := s₂.slotsUsed } : State) L mc ms := by
      refine ⟨?_, q2, q3, q4, q5, q6⟩
      obtain ⟨t, ht, -⟩ := State.frames_cons hr
      show ({ U with heap := s₂.heap, slotsUsed := s₂.slotsUsed } : State) = { U.setFrames U.frames with heap := s₂.heap, slotsUsed := s₂.slotsUsed }
      rw [State.setFrames_self ht]
    subst hg
    refine Or.inl ⟨v, ⟨(({ U with heap := s₂.heap, slotsUsed := s₂.slotsUsed } : State).setVm s₂.vm), Ls ++ L, c0 + mc, s0 + ms⟩,
      ⟨X.admits, X.cas, X.clock, X.frames, X.room, X.hears, X.method, X.code, (X.here.setHeapUsed s₂.heap s₂.slotsUsed).setVm hW'.alike, X.tail, State.WarmedH.trans X.warmed hW', X.limits, X.bytes, X.same.trans (hsame.setVm s.vm)⟩,
      ⟨g, mk, s₂, L, rfl, rfl, hqc, rfl, hL, rfl, rfl⟩, ?_⟩
    show Steps p.tables e below _ ((({ U with heap := s₂.heap, slotsUsed := s₂.slotsUsed } : State).setVm s₂.vm).setTop { g with pc := g.pc + len₂, stack := v.toList ++ g.stack })
    rw [← hs₂]
    exact hsteps
  · obtain ⟨e2, q2, q3, q4, q5, q6⟩ := id hsm
    have e3 : s₂ = ({ (U.calling g mk a).setFrames s₂.frames with heap := s₂.heap, slotsUsed := s₂.slotsUsed } : State).setVm s₂.vm := by
      have : s₂ = ({ s₂ with vm := (U.calling g mk a).vm } : State).setVm s₂.vm := rfl
      rw [e2] at this
      exact this
    have hf₂ : s₂.frames = .throwing q :: .java g :: U.frames.tail := hend
    have hW' : U.WarmedH s₂.vm := hW₂
    have hs₂ : s₂ = ((({ U with heap := s₂.heap, slotsUsed := s₂.slotsUsed } : State).setVm s₂.vm).setTop g).pushFrame (.throwing q) := by
      refine e3.trans ?_
      rw [hf₂, State.calling_eq h.top, State.setFrames_setFrames, State.pushFrame, State.frames_setTop _ hr', State.setTop_of_frames _ hr', State.setFrames_setFrames, hr]
      rfl
    have hsame : U.sameButNew ({ U with heap := s₂.heap, slotsUsed := s₂.slotsUsed } : State) L mc ms := by
      refine ⟨?_, q2, q3, q4, q5, q6⟩
      obtain ⟨t, ht, -⟩ := State.frames_cons hr
      show ({ U with heap := s₂.heap, slotsUsed := s₂.slotsUsed } : State) = { U.setFrames U.frames with heap := s₂.heap, slotsUsed := s₂.slotsUsed }
      rw [State.setFrames_self ht]
    subst hg
    refine Or.inr ⟨q, ⟨(({ U with heap := s₂.heap, slotsUsed := s₂.slotsUsed } : State).setVm s₂.vm), Ls ++ L, c0 + mc, s0 + ms⟩,
      ⟨X.admits, X.cas, X.clock, X.frames, X.room, X.hears, X.method, X.code, (X.here.setHeapUsed s₂.heap s₂.slotsUsed).setVm hW'.alike, X.tail, State.WarmedH.trans X.warmed hW', X.limits, X.bytes, X.same.trans (hsame.setVm s.vm)⟩,
      ⟨g, mk, s₂, L, E, ce, rfl, rfl, hx, hce, hcv, hcl, rfl, hL, rfl, rfl⟩, ?_⟩
    show Steps p.tables e below _ (((({ U with heap := s₂.heap, slotsUsed := s₂.slotsUsed } : State).setVm s₂.vm).setTop g).pushFrame (.throwing q))
    rw [← hs₂]
    exact hsteps
end Payer
section Calls
variable {p : Program} {l : Launch} {e : Env} {R : Room} {s : State} {m : MethodId} {args : Array Value} {below : List Frame} {meth : Method} {c : Code} {T : State} {locs : List Loc} {cells slots : Nat}
theorem vx_callV (X : Stand p l e R s m args below meth c T locs cells slots) (hexec : p.tables.exec = Jvm.exec) {own C : String} {index : Nat} {y : MethodName} {bytes : ByteArray} {maxL : Nat} {ret : Option FieldType}
    (hown : s.vm.findClass own = some m.cls) (hlink : (Cond.methodLink own index y).before args s = true) (hinst : (Cond.instanceMethod y).before args s = true) (hsel : (Cond.selects C y y).before args s = true)
    (hcode : (Cond.code y bytes maxL ret).before args s = true) (hy : y.cls ≠ "java/lang/invoke/MethodHandle" ∧ y.cls ≠ "java/lang/invoke/VarHandle")
    {W9 : Nat} {Pre : Pt → Array Value → Prop} {Post : Pt → Array Value → Option Value → Pt → Prop} {PostX : Pt → Array Value → Addr → Pt → Prop} (hK : vx_Back l R p e below s args y 3 W9 Pre Post PostX)
    {b : Addr} {cellB : Cell} (hcell : T.heap[b]? = some cellB) (hobj : cellB.vm.isStatics = false) (hcls : s.vm.findClass C = some cellB.cls)
    {g : JFrame} (hg : g.method = m) (hsize : g.locals.size = c.maxLocals) {argsL rest : List Value} (hlen : ∀ sig, parseMethodDescriptor y.desc = some sig → argsL.length = sig.parameters.length)
    (hstack : g.stack = argsL.reverse ++ .ref b :: rest) (hW : 2 * g.monitorRoom + (rest.map fun v => v.category).sum ≤ W9) (hdg : decode c.code g.pc = .ok (.invokevirtual index, 3))
    (hpre : ∀ vm₁, s.WarmedH vm₁ → Pre ⟨T.setVm vm₁, locs, cells, slots⟩ (Value.ref b :: argsL).toArray) :
    (∃ (v : Option Value) (vm₁ : Vm) (B : Pt), s.WarmedH vm₁ ∧ Stand p l e R s m args below meth c B.U B.locs B.cells B.slots ∧ Post ⟨T.setVm vm₁, locs, cells, slots⟩ (Value.ref b :: argsL).toArray v B ∧
      ∀ target, Steps p.tables e below (B.U.setTop { g with pc := g.pc + 3, stack := v.toList ++ rest }) target → Steps p.tables e below (T.setTop g) target) ∨
    (∃ (q : Addr) (vm₁ : Vm) (B : Pt), s.WarmedH vm₁ ∧ Stand p l e R s m args below meth c B.U B.locs B.cells B.slots ∧ PostX ⟨T.setVm vm₁, locs, cells, slots⟩ (Value.ref b :: argsL).toArray q B ∧
      Steps p.tables e below (T.setTop g) ((B.U.setTop { g with stack := rest }).pushFrame (.throwing q))) := by
  obtain ⟨mk, methM, hnamed, hmethM, hstM, habM⟩ := Cond.instanceMethod_spec hinst
  obtain ⟨methM', cM, hmethM', -, -, -, -, -, -, hsigM⟩ := Cond.code_spec hnamed hcode
  cases hmethM.symm.trans hmethM'
  obtain ⟨c2, r2, m2, q1, q2, q3, q4, kP, hkP, hkPi⟩ := Cond.selects_spec hsel
  cases hcls.symm.trans q1
  cases (State.methodFound?_of_named hnamed hy).symm.trans q2
  cases hnamed.symm.trans q3
  have hselP : selectMethod e.platform s.vm cellB.cls mk = .method mk := by rw [Launch.admits_selectMethod X.admits]; exact q4
  obtain ⟨vm₁, X₁, hstep₁⟩ := X.invokevirtual hexec hown hlink hnamed hmethM hstM hkP hkPi hy (a := b) (cell := cellB) hcell
    (fun z h => by rw [h] at hobj; cases hobj) hselP hmethM habM hkP hkPi (g := g) hg (argsL := argsL) (rest := rest) (hlen _ hsigM) hstack hdg
  rcases hK m meth c ⟨T.setVm vm₁, locs, cells, slots⟩ { g with stack := rest } (.invokevirtual index) mk (Value.ref b :: argsL).toArray X₁ hg hsize hdg hW (X₁.named hnamed) (hpre vm₁ X₁.warmed) with ⟨v, B, X', hpost, hsteps⟩ | ⟨q, B, X', hpost, hsteps⟩
  · exact Or.inl ⟨v, vm₁, B, X₁.warmed, X', hpost, fun target h => hstep₁ _ fun acts => by rw [doInvoke_state]; exact hsteps.trans h⟩
  · exact Or.inr ⟨q, vm₁, B, X₁.warmed, X', hpost, hstep₁ _ fun acts => by rw [doInvoke_state]; exact hsteps⟩
theorem vx_callS (X : Stand p l e R s m args below meth c T locs cells slots) (hexec : p.tables.exec = Jvm.exec) {own : String} {index : Nat} {y : MethodName} {bytes : ByteArray} {maxL : Nat} {ret : Option FieldType}
    (hown : s.vm.findClass own = some m.cls) (hlink : (Cond.methodLink own index y).before args s = true) (hstat : (Cond.static y).before args s = true) (hinit : (Cond.initialized y.cls).before args s = true)
    (hcode : (Cond.code y bytes maxL ret).before args s = true) (hy : y.cls ≠ "java/lang/invoke/MethodHandle" ∧ y.cls ≠ "java/lang/invoke/VarHandle")
    {W9 : Nat} {Pre : Pt → Array Value → Prop} {Post : Pt → Array Value → Option Value → Pt → Prop} {PostX : Pt → Array Value → Addr → Pt → Prop} (hK : vx_Back l R p e below s args y 3 W9 Pre Post PostX)
    {g : JFrame} (hg : g.method = m) (hsize : g.locals.size = c.maxLocals) {argsL rest : List Value} (hlen : ∀ sig, parseMethodDescriptor y.desc = some sig → argsL.length = sig.parameters.length)
    (hstack : g.stack = argsL.reverse ++ rest) (hW : 2 * g.monitorRoom + (rest.map fun v => v.category).sum ≤ W9) (hdg : decode c.code g.pc = .ok (.invokestatic index, 3))
    (hpre : ∀ vm₁, s.WarmedH vm₁ → Pre ⟨T.setVm vm₁, locs, cells, slots⟩ argsL.toArray) :
    (∃ (v : Option Value) (vm₁ : Vm) (B : Pt), s.WarmedH vm₁ ∧ Stand p l e R s m args below meth c B.U B.locs B.cells B.slots ∧ Post ⟨T.setVm vm₁, locs, cells, slots⟩ argsL.toArray v B ∧
      ∀ target, Steps p.tables e below (B.U.setTop { g with pc := g.pc + 3, stack := v.toList ++ rest }) target → Steps p.tables e below (T.setTop g) target) ∨
    (∃ (q : Addr) (vm₁ : Vm) (B : Pt), s.WarmedH vm₁ ∧ Stand p l e R s m args below meth c B.U B.locs B.cells B.slots ∧ PostX ⟨T.setVm vm₁, locs, cells, slots⟩ argsL.toArray q B ∧
      Steps p.tables e below (T.setTop g) ((B.U.setTop { g with stack := rest }).pushFrame (.throwing q))) := by
  obtain ⟨mk, hnamed⟩ := Cond.code_named hcode
  obtain ⟨methM, cM, hmethM, -, -, -, -, -, -, hsigM⟩ := Cond.code_spec hnamed hcode
  have hstatic : methM.isStatic = true := Cond.static_spec hnamed hmethM hstat
  obtain ⟨kP, hkP, -⟩ := className_of_methodNamed hnamed
  have hinitP : kP.init = .initialized := Cond.initialized_spec (findClass_of_methodNamed hnamed) hkP hinit
  obtain ⟨vm₁, X₁, hstep₁⟩ := X.invokestatic hexec hown hlink hnamed hmethM hstatic hkP hinitP hy (g := g) hg (argsL := argsL) (rest := rest) (hlen _ hsigM) hstack hdg
  rcases hK m meth c ⟨T.setVm vm₁, locs, cells, slots⟩ { g with stack := rest } (.invokestatic index) mk argsL.toArray X₁ hg hsize hdg hW (X₁.named hnamed) (hpre vm₁ X₁.warmed) with ⟨v, B, X', hpost, hsteps⟩ | ⟨q, B, X', hpost, hsteps⟩
  · exact Or.inl ⟨v, vm₁, B, X₁.warmed, X', hpost, fun target h => hstep₁ _ fun acts => by rw [doInvoke_state]; exact hsteps.trans h⟩
  · exact Or.inr ⟨q, vm₁, B, X₁.warmed, X', hpost, hstep₁ _ fun acts => by rw [doInvoke_state]; exact hsteps⟩
end Calls
theorem vx_cls {s : State} {T : State} {vm₁ : Vm} {E : String} {k : ClassId} (hW : s.WarmedH vm₁) (h : (T.setVm vm₁).vm.findClass E = some k) : s.vm.findClass E = some k := by
  have h1 : vm₁.findClass E = some k := h
  rw [hW.alike.findClass] at h1
  exact h1
/-- the method's frame g, with q thrown over it -/
def vx_W (p : Program) (l : Launch) (e : Env) (R : Room) (s : State) (m : MethodId) (args : Array Value) (below : List Frame) (meth : Method) (c : Code) (H : Heap) (locs : List Loc) (cells slots : Nat) (Q : State → Prop) (g : JFrame) (q : Addr) : Prop :=
  ∀ T : State, T.heap = H → Stand p l e R s m args below meth c T locs cells slots → ∃ t, Steps p.tables e below ((T.setTop g).pushFrame (.throwing q)) t ∧ Q t
def vx_Run (p : Program) (l : Launch) (e : Env) (R : Room) (s : State) (m : MethodId) (args : Array Value) (below : List Frame) (meth : Method) (c : Code) (H : Heap) (locs : List Loc) (cells slots mc ms : Nat) (g : JFrame) (rest : List Value) (Qa : State → Outcome → State → Prop) (XC : String → State → State → Prop) (free : Addr → Prop) : Prop :=
  ∀ T : State, T.heap = H → Stand p l e R s m args below meth c T locs cells slots →
    (∃ (v : Option Value) (st₀ t T' : State) (L : List Loc), st₀.heap = H ∧ Stand p l e R s m args below meth c T' (locs ++ L) (cells + mc) (slots + ms) ∧ (∀ q ∈ L, free q.base) ∧ T'.heap = t.heap ∧ T'.vm = t.vm ∧ Qa st₀ (.returned v) t ∧
      Goes p e below T g T' { g with pc := g.pc + 3, stack := v.toList ++ rest }) ∨
    (∃ (q : Addr) (st₀ t T' : State) (L : List Loc) (E : String) (ce : Cell), st₀.heap = H ∧ Stand p l e R s m args below meth c T' (locs ++ L) (cells + mc) (slots + ms) ∧ (∀ z ∈ L, free z.base) ∧ T'.heap = t.heap ∧ T'.vm = t.vm ∧ XC E st₀ t ∧ t.heap[q]? = some ce ∧ ce.vm = .none ∧ s.vm.findClass E = some ce.cls ∧
      Steps p.tables e below (T.setTop g) ((T'.setTop { g with stack := rest }).pushFrame (.throwing q)))
def vx_X {S : Type} (px : S → Prop) (B : String → S → State → Prop) (A : Nat → Prop) : String → State → State → Prop := fun E st t => ∃ u : S, px u ∧ B E u t ∧ va_F A st t
section Runs
variable {p : Program} {l : Launch} {e : Env} {R : Room} {s : State} {m : MethodId} {args : Array Value} {below : List Frame} {meth : Method} {c : Code} {H : Heap} {locs : List Loc} {cells slots : Nat}
variable {y : MethodName} {bytes cc : ByteArray} {maxL nL mc ms n index : Nat} {ret : Option FieldType} {ws : List Cond} {rm : Room} {Pc : Array Value → State → Prop} {Qc : Array Value → State → Outcome → State → Prop} {XC : String → State → State → Prop} {free : Addr → Prop} {Ts : List Cond} {own C : String} {b : Addr} {As rest : List Value} {g : JFrame}
theorem vx_callBack (cb : CallB R s args own index y bytes maxL ret ws rm mc ms n) (hM : vx_Met l y ws rm Pc Qc XC mc ms free) (hbl : FrameBlind Pc) : vx_Back l R p e below s args y 3 8 (PreOf R mc ms Pc) (PostOf Qc mc ms free) (vx_Post XC mc ms free) := by
  obtain ⟨hrc, hrs, hfr, hlo, hws, hcw, -, hini, -⟩ := cb
  exact vx_back (bytes := bytes) (maxL := maxL) (ret := ret) hM hbl hrc hrs hfr hlo hws hcw (fun a' U hW => word_at hW (Or.inl (by first | rfl | simp [Cond.onTables, Cond.keeps, Cond.steady])) hini)
theorem vx_runV (S : CallFix p m c cc nL s args Ts own) (hM : vx_Met l y ws rm Pc Qc XC mc ms free) (cw : CallW R s args own C index y bytes maxL ret ws rm mc ms n) (hp : PreV s H C b Pc As)
    (hg : g.method = m) (hn : As.length = n) (hsize : g.locals.size = nL) (hstack : g.stack = As.reverse ++ .ref b :: rest) (hW : 2 * g.monitorRoom + (rest.map fun v => v.category).sum ≤ 8) (hdg : decode cc g.pc = .ok (.invokevirtual index, 3)) (hf : cells + mc ≤ R.cells ∧ slots + ms ≤ R.slots) :
    vx_Run p l e R s m args below meth c H locs cells slots mc ms g rest (Qc (Value.ref b :: As).toArray) XC free := by
  have hK : vx_Back l R p e below s args y 3 8 (PreOf R mc ms Pc) (PostOf Qc mc ms free) (vx_Post XC mc ms free) := vx_callBack cw.1 hM hp.1
  obtain ⟨⟨-, -, -, -, -, -, hcode, -, hy, hlen, hl⟩, hin, hse⟩ := cw
  obtain ⟨hx, hb, hml, ho, -⟩ := S
  obtain ⟨-, ⟨cellB, hcB, hoB, hclB⟩, hPc⟩ := hp
  intro T hT X
  rcases vx_callV X hx (C := C) (bytes := bytes) (maxL := maxL) (ret := ret) ho hl hin hse hcode hy hK (by rw [hT]; exact hcB) hoB hclB hg (hsize.trans hml.symm) (argsL := As) (rest := rest) (fun sig h => hn.trans (hlen sig h)) hstack hW (by rw [hb]; exact hdg)
    (fun vm₁ hW₁ => ⟨hf.1, hf.2, hPc (T.setVm vm₁) hT hW₁⟩) with ⟨v, vm₁, ⟨U', l2, c2, s2⟩, hW₁, X', ⟨g', mk, t, L, e1, e2, hq, h1, hL, h2, h3⟩, st⟩ | ⟨q, vm₁, ⟨U', l2, c2, s2⟩, hW₁, X', ⟨g', mk, t, L, E, ce, e1, e2, hq, hce, hcv, hcl, h1, hL, h2, h3⟩, st⟩
  · dsimp only [Pt.U, Pt.locs, Pt.cells, Pt.slots] at X' e1 e2 h1 h2 h3 st
    subst h1; subst h2; subst h3
    exact Or.inl ⟨v, (T.setVm vm₁).calling g' mk (Value.ref b :: As).toArray, t, U', L, hT, X', hL, e1, e2, hq, st⟩
  · dsimp only [Pt.U, Pt.locs, Pt.cells, Pt.slots] at X' e1 e2 h1 h2 h3 st hcl
    subst h1; subst h2; subst h3
    exact Or.inr ⟨q, (T.setVm vm₁).calling g' mk (Value.ref b :: As).toArray, t, U', L, E, ce, hT, X', hL, e1, e2, hq, hce, hcv, vx_cls hW₁ hcl, st⟩
theorem vx_runS (S : CallFix p m c cc nL s args Ts own) (hM : vx_Met l y ws rm Pc Qc XC mc ms free) (cw : CallB R s args own index y bytes maxL ret ws rm mc ms n ∧ (Cond.static y).before args s = true) (hp : PreS s H Pc As)
    (hg : g.method = m) (hn : As.length = n) (hsize : g.locals.size = nL) (hstack : g.stack = As.reverse ++ rest) (hW : 2 * g.monitorRoom + (rest.map fun v => v.category).sum ≤ 8) (hdg : decode cc g.pc = .ok (.invokestatic index, 3)) (hf : cells + mc ≤ R.cells ∧ slots + ms ≤ R.slots) :
    vx_Run p l e R s m args below meth c H locs cells slots mc ms g rest (Qc As.toArray) XC free := by
  have hK : vx_Back l R p e below s args y 3 8 (PreOf R mc ms Pc) (PostOf Qc mc ms free) (vx_Post XC mc ms free) := vx_callBack cw.1 hM hp.1
  obtain ⟨⟨-, -, -, -, -, -, hcode, hini, hy, hlen, hl⟩, hstt⟩ := cw
  obtain ⟨hx, hb, hml, ho, -⟩ := S
  intro T hT X
  rcases vx_callS X hx (bytes := bytes) (maxL := maxL) (ret := ret) ho hl hstt hini hcode hy hK hg (hsize.trans hml.symm) (argsL := As) (rest := rest) (fun sig h => hn.trans (hlen sig h)) hstack hW (by rw [hb]; exact hdg)
    (fun vm₁ hW₁ => ⟨hf.1, hf.2, hp.2 (T.setVm vm₁) hT hW₁⟩) with ⟨v, vm₁, ⟨U', l2, c2, s2⟩, hW₁, X', ⟨g', mk, t, L, e1, e2, hq, h1, hL, h2, h3⟩, st⟩ | ⟨q, vm₁, ⟨U', l2, c2, s2⟩, hW₁, X', ⟨g', mk, t, L, E, ce, e1, e2, hq, hce, hcv, hcl, h1, hL, h2, h3⟩, st⟩
  · dsimp only [Pt.U, Pt.locs, Pt.cells, Pt.slots] at X' e1 e2 h1 h2 h3 st
    subst h1; subst h2; subst h3
    exact Or.inl ⟨v, (T.setVm vm₁).calling g' mk As.toArray, t, U', L, hT, X', hL, e1, e2, hq, st⟩
  · dsimp only [Pt.U, Pt.locs, Pt.cells, Pt.slots] at X' e1 e2 h1 h2 h3 st hcl
    subst h1; subst h2; subst h3
    exact Or.inr ⟨q, (T.setVm vm₁).calling g' mk As.toArray, t, U', L, E, ce, hT, X', hL, e1, e2, hq, hce, hcv, vx_cls hW₁ hcl, st⟩
end Runs
section Rows
variable {p : Program} {l : Launch} {e : Env} {R : Room} {s : State} {m : MethodId} {args : Array Value} {below : List Frame} {meth : Method} {c : Code} {H : Heap} {locs : List Loc} {cells slots : Nat} {Q : State → Prop}
variable {mc ms : Nat} {free : Addr → Prop} {A0 A1 : Nat → Prop} {H0 : Heap} {a : Array Value} {pc : Nat} {ls : Array Slot} {st0 rest : List Value}
theorem vx_keep {st₀ t T' : State} {L : List Loc} (h0 : st₀.heap = H) (e1 : T'.heap = t.heap) (hS : va_S A0 H0 H locs) (hA : ∀ q, q < H.size → A1 q → A0 q) (hf : ∀ q, free q → A0 q) (hL : ∀ q ∈ L, free q.base) (hF : va_F A1 st₀ t) :
    H.size ≤ T'.heap.size ∧ (∀ q : Nat, q < H.size → ¬ A1 q → T'.heap[q]? = H[q]?) ∧ va_S A0 H0 T'.heap (locs ++ L) := by
  obtain ⟨hz, hk⟩ := hF
  rw [h0] at hz hk
  exact ⟨by rw [e1]; exact hz, fun q h1 h2 => by rw [e1]; exact hk q h1 h2,
    ⟨Nat.le_trans hS.1 (by rw [e1]; exact hz), fun q h1 h2 => by rw [e1, hk q (Nat.lt_of_lt_of_le h1 hS.1) (fun z => h2 (hA q (Nat.lt_of_lt_of_le h1 hS.1) z))]; exact hS.2.1 q h1 h2, fun q hq => by
      rcases List.mem_append.mp hq with h | h
      · exact hS.2.2 q h
      · exact hf _ (hL q h)⟩⟩
theorem vx_calli {S SX : Type} {post : Int32 → S → Prop} {px : SX → Prop} {B : S → State → Prop} {BX : String → SX → State → Prop} {AX : Nat → Prop} (hr : vx_Run p l e R s m args below meth c H locs cells slots mc ms (F0 m pc ls st0) rest (va_Qi post B A1 a) (vx_X px BX AX) free) (hS : va_S A0 H0 H locs) (hA : ∀ q, q < H.size → A1 q → A0 q) (hf : ∀ q, free q → A0 q) (hAX : ∀ q, q < H.size → AX q → A0 q)
    (kx : ∀ (E : String) (ce : Cell) (q9 : Addr) (u : SX) (t : State) (H1 : Heap) (locs1 : List Loc), t.heap = H1 → s.vm.Alike t.vm → px u → BX E u t → H.size ≤ H1.size → (∀ q : Nat, q < H.size → ¬ AX q → H1[q]? = H[q]?) → va_S A0 H0 H1 locs1 → H1[q9]? = some ce → ce.vm = .none → s.vm.findClass E = some ce.cls → vx_W p l e R s m args below meth c H1 locs1 (cells + mc) (slots + ms) Q (F0 m pc ls rest) q9)
    (kk : ∀ (r : Int32) (u : S) (t : State) (H1 : Heap) (locs1 : List Loc), t.heap = H1 → s.vm.Alike t.vm → post r u → B u t → H.size ≤ H1.size → (∀ q : Nat, q < H.size → ¬ A1 q → H1[q]? = H[q]?) → va_S A0 H0 H1 locs1 → W p l e R s m args below meth c H1 locs1 (cells + mc) (slots + ms) Q (F0 m (pc + 3) ls (.int r :: rest))) : W p l e R s m args below meth c H locs cells slots Q (F0 m pc ls st0) := by
  intro T hT X
  rcases hr T hT X with ⟨v, st₀, t, T', L, h0, X', hL, e1, e2, ⟨⟨r, u, hv, hp, hb⟩, hF⟩, st⟩ | ⟨q, st₀, t, T', L, E, ce, h0, X', hL, e1, e2, ⟨u, hp, hb, hF⟩, hce, hcv, hcl, st⟩
  · cases hv
    obtain ⟨k1, k2, k3⟩ := vx_keep h0 e1 hS hA hf hL hF
    obtain ⟨t2, a1, b1⟩ := kk r u t T'.heap (locs ++ L) e1.symm (by rw [← e2]; exact X'.warmed.alike) hp hb k1 k2 k3 T' rfl X'
    exact ⟨t2, st t2 a1, b1⟩
  · obtain ⟨k1, k2, k3⟩ := vx_keep h0 e1 hS hAX hf hL hF
    obtain ⟨t2, a1, b1⟩ := kx E ce q u t T'.heap (locs ++ L) e1.symm (by rw [← e2]; exact X'.warmed.alike) hp hb k1 k2 k3 (by rw [e1]; exact hce) hcv hcl T' rfl X'
    exact ⟨t2, st.trans a1, b1⟩
theorem vx_calll {S SX : Type} {post : Int64 → S → Prop} {px : SX → Prop} {B : S → State → Prop} {BX : String → SX → State → Prop} {AX : Nat → Prop} (hr : vx_Run p l e R s m args below meth c H locs cells slots mc ms (F0 m pc ls st0) rest (va_Ql post B A1 a) (vx_X px BX AX) free) (hS : va_S A0 H0 H locs) (hA : ∀ q, q < H.size → A1 q → A0 q) (hf : ∀ q, free q → A0 q) (hAX : ∀ q, q < H.size → AX q → A0 q)
    (kx : ∀ (E : String) (ce : Cell) (q9 : Addr) (u : SX) (t : State) (H1 : Heap) (locs1 : List Loc), t.heap = H1 → s.vm.Alike t.vm → px u → BX E u t → H.size ≤ H1.size → (∀ q : Nat, q < H.size → ¬ AX q → H1[q]? = H[q]?) → va_S A0 H0 H1 locs1 → H1[q9]? = some ce → ce.vm = .none → s.vm.findClass E = some ce.cls → vx_W p l e R s m args below meth c H1 locs1 (cells + mc) (slots + ms) Q (F0 m pc ls rest) q9)
    (kk : ∀ (r : Int64) (u : S) (t : State) (H1 : Heap) (locs1 : List Loc), t.heap = H1 → s.vm.Alike t.vm → post r u → B u t → H.size ≤ H1.size → (∀ q : Nat, q < H.size → ¬ A1 q → H1[q]? = H[q]?) → va_S A0 H0 H1 locs1 → W p l e R s m args below meth c H1 locs1 (cells + mc) (slots + ms) Q (F0 m (pc + 3) ls (.long r :: rest))) : W p l e R s m args below meth c H locs cells slots Q (F0 m pc ls st0) := by
  intro T hT X
  rcases hr T hT X with ⟨v, st₀, t, T', L, h0, X', hL, e1, e2, ⟨⟨r, u, hv, hp, hb⟩, hF⟩, st⟩ | ⟨q, st₀, t, T', L, E, ce, h0, X', hL, e1, e2, ⟨u, hp, hb, hF⟩, hce, hcv, hcl, st⟩
  · cases hv
    obtain ⟨k1, k2, k3⟩ := vx_keep h0 e1 hS hA hf hL hF
    obtain ⟨t2, a1, b1⟩ := kk r u t T'.heap (locs ++ L) e1.symm (by rw [← e2]; exact X'.warmed.alike) hp hb k1 k2 k3 T' rfl X'
    exact ⟨t2, st t2 a1, b1⟩
  · obtain ⟨k1, k2, k3⟩ := vx_keep h0 e1 hS hAX hf hL hF
    obtain ⟨t2, a1, b1⟩ := kx E ce q u t T'.heap (locs ++ L) e1.symm (by rw [← e2]; exact X'.warmed.alike) hp hb k1 k2 k3 (by rw [e1]; exact hce) hcv hcl T' rfl X'
    exact ⟨t2, st.trans a1, b1⟩
theorem vx_callf {S SX : Type} {post : UInt32 → S → Prop} {px : SX → Prop} {B : S → State → Prop} {BX : String → SX → State → Prop} {AX : Nat → Prop} (hr : vx_Run p l e R s m args below meth c H locs cells slots mc ms (F0 m pc ls st0) rest (va_Qf post B A1 a) (vx_X px BX AX) free) (hS : va_S A0 H0 H locs) (hA : ∀ q, q < H.size → A1 q → A0 q) (hf : ∀ q, free q → A0 q) (hAX : ∀ q, q < H.size → AX q → A0 q)
    (kx : ∀ (E : String) (ce : Cell) (q9 : Addr) (u : SX) (t : State) (H1 : Heap) (locs1 : List Loc), t.heap = H1 → s.vm.Alike t.vm → px u → BX E u t → H.size ≤ H1.size → (∀ q : Nat, q < H.size → ¬ AX q → H1[q]? = H[q]?) → va_S A0 H0 H1 locs1 → H1[q9]? = some ce → ce.vm = .none → s.vm.findClass E = some ce.cls → vx_W p l e R s m args below meth c H1 locs1 (cells + mc) (slots + ms) Q (F0 m pc ls rest) q9)
    (kk : ∀ (r : UInt32) (u : S) (t : State) (H1 : Heap) (locs1 : List Loc), t.heap = H1 → s.vm.Alike t.vm → post r u → B u t → H.size ≤ H1.size → (∀ q : Nat, q < H.size → ¬ A1 q → H1[q]? = H[q]?) → va_S A0 H0 H1 locs1 → W p l e R s m args below meth c H1 locs1 (cells + mc) (slots + ms) Q (F0 m (pc + 3) ls (.float r :: rest))) : W p l e R s m args below meth c H locs cells slots Q (F0 m pc ls st0) := by
  intro T hT X
  rcases hr T hT X with ⟨v, st₀, t, T', L, h0, X', hL, e1, e2, ⟨⟨r, u, hv, hp, hb⟩, hF⟩, st⟩ | ⟨q, st₀, t, T', L, E, ce, h0, X', hL, e1, e2, ⟨u, hp, hb, hF⟩, hce, hcv, hcl, st⟩
  · cases hv
    obtain ⟨k1, k2, k3⟩ := vx_keep h0 e1 hS hA hf hL hF
    obtain ⟨t2, a1, b1⟩ := kk r u t T'.heap (locs ++ L) e1.symm (by rw [← e2]; exact X'.warmed.alike) hp hb k1 k2 k3 T' rfl X'
    exact ⟨t2, st t2 a1, b1⟩
  · obtain ⟨k1, k2, k3⟩ := vx_keep h0 e1 hS hAX hf hL hF
    obtain ⟨t2, a1, b1⟩ := kx E ce q u t T'.heap (locs ++ L) e1.symm (by rw [← e2]; exact X'.warmed.alike) hp hb k1 k2 k3 (by rw [e1]; exact hce) hcv hcl T' rfl X'
    exact ⟨t2, st.trans a1, b1⟩
theorem vx_calld {S SX : Type} {post : UInt64 → S → Prop} {px : SX → Prop} {B : S → State → Prop} {BX : String → SX → State → Prop} {AX : Nat → Prop} (hr : vx_Run p l e R s m args below meth c H locs cells slots mc ms (F0 m pc ls st0) rest (va_Qd post B A1 a) (vx_X px BX AX) free) (hS : va_S A0 H0 H locs) (hA : ∀ q, q < H.size → A1 q → A0 q) (hf : ∀ q, free q → A0 q) (hAX : ∀ q, q < H.size → AX q → A0 q)
    (kx : ∀ (E : String) (ce : Cell) (q9 : Addr) (u : SX) (t : State) (H1 : Heap) (locs1 : List Loc), t.heap = H1 → s.vm.Alike t.vm → px u → BX E u t → H.size ≤ H1.size → (∀ q : Nat, q < H.size → ¬ AX q → H1[q]? = H[q]?) → va_S A0 H0 H1 locs1 → H1[q9]? = some ce → ce.vm = .none → s.vm.findClass E = some ce.cls → vx_W p l e R s m args below meth c H1 locs1 (cells + mc) (slots + ms) Q (F0 m pc ls rest) q9)
    (kk : ∀ (r : UInt64) (u : S) (t : State) (H1 : Heap) (locs1 : List Loc), t.heap = H1 → s.vm.Alike t.vm → post r u → B u t → H.size ≤ H1.size → (∀ q : Nat, q < H.size → ¬ A1 q → H1[q]? = H[q]?) → va_S A0 H0 H1 locs1 → W p l e R s m args below meth c H1 locs1 (cells + mc) (slots + ms) Q (F0 m (pc + 3) ls (.double r :: rest))) : W p l e R s m args below meth c H locs cells slots Q (F0 m pc ls st0) := by
  intro T hT X
  rcases hr T hT X with ⟨v, st₀, t, T', L, h0, X', hL, e1, e2, ⟨⟨r, u, hv, hp, hb⟩, hF⟩, st⟩ | ⟨q, st₀, t, T', L, E, ce, h0, X', hL, e1, e2, ⟨u, hp, hb, hF⟩, hce, hcv, hcl, st⟩
  · cases hv
    obtain ⟨k1, k2, k3⟩ := vx_keep h0 e1 hS hA hf hL hF
    obtain ⟨t2, a1, b1⟩ := kk r u t T'.heap (locs ++ L) e1.symm (by rw [← e2]; exact X'.warmed.alike) hp hb k1 k2 k3 T' rfl X'
    exact ⟨t2, st t2 a1, b1⟩
  · obtain ⟨k1, k2, k3⟩ := vx_keep h0 e1 hS hAX hf hL hF
    obtain ⟨t2, a1, b1⟩ := kx E ce q u t T'.heap (locs ++ L) e1.symm (by rw [← e2]; exact X'.warmed.alike) hp hb k1 k2 k3 (by rw [e1]; exact hce) hcv hcl T' rfl X'
    exact ⟨t2, st.trans a1, b1⟩
theorem vx_callv {S SX : Type} {post : S → Prop} {px : SX → Prop} {B : S → State → Prop} {BX : String → SX → State → Prop} {AX : Nat → Prop} (hr : vx_Run p l e R s m args below meth c H locs cells slots mc ms (F0 m pc ls st0) rest (va_Qv post B A1 a) (vx_X px BX AX) free) (hS : va_S A0 H0 H locs) (hA : ∀ q, q < H.size → A1 q → A0 q) (hf : ∀ q, free q → A0 q) (hAX : ∀ q, q < H.size → AX q → A0 q)
    (kx : ∀ (E : String) (ce : Cell) (q9 : Addr) (u : SX) (t : State) (H1 : Heap) (locs1 : List Loc), t.heap = H1 → s.vm.Alike t.vm → px u → BX E u t → H.size ≤ H1.size → (∀ q : Nat, q < H.size → ¬ AX q → H1[q]? = H[q]?) → va_S A0 H0 H1 locs1 → H1[q9]? = some ce → ce.vm = .none → s.vm.findClass E = some ce.cls → vx_W p l e R s m args below meth c H1 locs1 (cells + mc) (slots + ms) Q (F0 m pc ls rest) q9)
    (kk : ∀ (u : S) (t : State) (H1 : Heap) (locs1 : List Loc), t.heap = H1 → s.vm.Alike t.vm → post u → B u t → H.size ≤ H1.size → (∀ q : Nat, q < H.size → ¬ A1 q → H1[q]? = H[q]?) → va_S A0 H0 H1 locs1 → W p l e R s m args below meth c H1 locs1 (cells + mc) (slots + ms) Q (F0 m (pc + 3) ls (rest))) : W p l e R s m args below meth c H locs cells slots Q (F0 m pc ls st0) := by
  intro T hT X
  rcases hr T hT X with ⟨v, st₀, t, T', L, h0, X', hL, e1, e2, ⟨⟨u, hv, hp, hb⟩, hF⟩, st⟩ | ⟨q, st₀, t, T', L, E, ce, h0, X', hL, e1, e2, ⟨u, hp, hb, hF⟩, hce, hcv, hcl, st⟩
  · cases hv
    obtain ⟨k1, k2, k3⟩ := vx_keep h0 e1 hS hA hf hL hF
    obtain ⟨t2, a1, b1⟩ := kk u t T'.heap (locs ++ L) e1.symm (by rw [← e2]; exact X'.warmed.alike) hp hb k1 k2 k3 T' rfl X'
    exact ⟨t2, st t2 a1, b1⟩
  · obtain ⟨k1, k2, k3⟩ := vx_keep h0 e1 hS hAX hf hL hF
    obtain ⟨t2, a1, b1⟩ := kx E ce q u t T'.heap (locs ++ L) e1.symm (by rw [← e2]; exact X'.warmed.alike) hp hb k1 k2 k3 (by rw [e1]; exact hce) hcv hcl T' rfl X'
    exact ⟨t2, st.trans a1, b1⟩
/-- caught by the row x of this method's table; the rows ahead don't take it -/
theorem vx_catch {own name : String} {E : String} {ce : Cell} {q : Addr} (hown : s.vm.findClass own = some m.cls) (pre : List ExceptionTableEntry) (x : ExceptionTableEntry) (suf : List ExceptionTableEntry) (hsplit : c.exceptionTable.toList = pre ++ x :: suf)
    (hpass : ∀ z ∈ pre, covers z pc = false ∨ (z.catchType ≠ 0 ∧ ∃ nm : String, (Cond.classLink own z.catchType nm).before args s = true ∧ va_Nc E nm s)) (hx : covers x pc = true) (h0 : x.catchType ≠ 0)
    (hlink : (Cond.classLink own x.catchType name).before args s = true) (hcast : (Cond.castable E name).before args s = true) (hcell : H[q]? = some ce) (hv : ce.vm = .none) (hcl : s.vm.findClass E = some ce.cls)
    (kk : W p l e R s m args below meth c H locs cells slots Q (F0 m x.handlerPc ls [.ref q])) : vx_W p l e R s m args below meth c H locs cells slots Q (F0 m pc ls rest) q := by
  intro T hT X
  have hpl : e.platform.magicAccessors = ({} : Platform).magicAccessors := by rw [X.admits.platform]
  obtain ⟨c3, c4, hc3, hc4, hasg⟩ := Cond.castable_spec hcast
  cases Option.some.inj (hc3.symm.trans hcl)
  obtain ⟨c5, hc5, hcl5⟩ := Cond.classLink_spec hown hlink e.platform hpl
  cases Option.some.inj (hc4.symm.trans hc5)
  obtain ⟨vm', X', st⟩ := X.thenCaughtThrough q (g := F0 m pc ls rest) rfl (Steps.refl _) (by rw [hT]; exact hcell) (by rw [hv]; rfl) (by obtain ⟨k9, h9, -⟩ := Vm.findClass_spec hcl; exact ⟨k9, h9⟩) pre x suf hsplit
    (fun z hz => by
      rcases hpass z hz with h | ⟨hz0, nm, hl1, hn1⟩
      · exact Or.inl h
      · obtain ⟨c6, hc6, hcl6⟩ := Cond.classLink_spec hown hl1 e.platform hpl
        obtain ⟨a8, b8, h1, h2, h3⟩ := hn1
        cases Option.some.inj (h1.symm.trans hcl)
        cases Option.some.inj (h2.symm.trans hc6)
        exact Or.inr ⟨hz0, _, hcl6, h3⟩) hx (Or.inr ⟨h0, c4, hcl5, hasg⟩)
  obtain ⟨t, a1, b1⟩ := kk (T.setVm vm') hT X'
  exact ⟨t, st.trans a1, b1⟩
end Rows
section Ends
variable {p : Program} {l : Launch} {e : Env} {R : Room} {s : State} {m : MethodId} {args : Array Value} {below : List Frame} {meth : Method} {c : Code} {H : Heap} {locs : List Loc} {cells slots : Nat} {Q : State → Prop}
variable {mc ms : Nat} {free : Addr → Prop} {A0 A1 : Nat → Prop} {H0 : Heap} {a : Array Value} {ls : Array Slot} {st0 rest : List Value}
variable {Qc : Array Value → State → Outcome → State → Prop} {XC : String → State → State → Prop}
/-- what a body that may throw owes at its end -/
def vx_MQ (below : List Frame) (Qc : Array Value → State → Outcome → State → Prop) (XC : String → State → State → Prop) (a : Array Value) (s : State) (mc ms : Nat) (free : Addr → Prop) : State → Prop := fun t =>
  ∃ o, t.status = .running ∧ Ended t below o ∧ vx_Q Qc XC mc ms free a s o t
theorem vx_ret {g : JFrame} {mc ms : Nat} (k : W p l e R s m args below meth c H locs cells slots (MQ below Qc args s mc ms free) g) : W p l e R s m args below meth c H locs cells slots (vx_MQ below Qc XC args s mc ms free) g := by
  intro T hT X
  obtain ⟨t, a1, o, b1, b2, b3, b4⟩ := k T hT X
  exact ⟨t, a1, o, b1, b2, Or.inl ⟨b3, b4⟩⟩
/-- not caught here: it goes on to the caller -/
theorem vx_widen {g : JFrame} {q : Addr} {k n : Nat} (h1 : cells ≤ k) (h2 : slots ≤ n) (kk : vx_W p l e R s m args below meth c H locs k n Q g q) : vx_W p l e R s m args below meth c H locs cells slots Q g q := fun T hT X => kk T hT (stand_widen X h1 h2)
theorem vx_out {pc : Nat} {E : String} {ce : Cell} {q : Addr} {mc ms : Nat} (hout : ∀ x ∈ c.exceptionTable.toList, covers x pc = false) (hlocks : meth.locks = false) (hcell : H[q]? = some ce) (hv : ce.vm = .none) (hcl : s.vm.findClass E = some ce.cls)
    (hx : ∀ t : State, t.heap = H → s.vm.Alike t.vm → XC E s t) (hf : ∀ z ∈ locs, free z.base) (hc : cells ≤ mc) (hs : slots ≤ ms) :
    vx_W p l e R s m args below meth c H locs cells slots (vx_MQ below Qc XC args s mc ms free) (F0 m pc ls rest) q := by
  intro T hT X
  obtain ⟨st1, hrun, hend, hW, hsm⟩ := X.leaveThrown q (g := F0 m pc ls rest) rfl rfl rfl hout hlocks
  have hcell9 : (T.setFrames (.throwing q :: below)).heap[q]? = some ce := by
    show T.heap[q]? = some ce
    rw [hT]; exact hcell
  exact ⟨_, st1, .threw q, hrun, hend, Or.inr ⟨q, rfl, E, ce, locs, hx _ hT hW.alike, hcell9, hv, hcl, hW, hsm.mono hc hs, hf⟩⟩
theorem vx_frame {U : State} {k n : Nat} (h : s.sameButNew ({ U with vm := s.vm } : State) locs k n) : s.heap.size ≤ U.heap.size ∧ ∀ q : Nat, q < s.heap.size → (∀ z ∈ locs, z.base ≠ q) → U.heap[q]? = s.heap[q]? := by
  obtain ⟨-, h2, -, -, -, h6⟩ := h
  refine ⟨h2, fun q hq hz => ?_⟩
  obtain ⟨c9, e1, e2, e3, e4⟩ := h6 q _ (Array.getElem?_eq_getElem hq)
  have hs : c9.slots = (s.heap[q]).slots := Array.ext_getElem? fun i => e4 i fun hm => hz _ hm rfl
  have h9 : c9 = s.heap[q] := by
    rw [hs] at e2
    exact e2
  have e5 : U.heap[q]? = some c9 := e1
  rw [e5, h9, Array.getElem?_eq_getElem hq]
/-- the words of a throw but the four that speak of the heap -/
def vx_no (w : Cond) : Bool := decide (w ≠ .isRef (.static Bundle.tN "UNASSIGNED_STACK" Bundle.steD)) && decide (w ≠ .isRef (.static Bundle.tN "SUPPRESSED_SENTINEL" Bundle.listD)) && decide (w ≠ .laysStatic Bundle.tN "UNASSIGNED_STACK" Bundle.steD) && decide (w ≠ .laysStatic Bundle.tN "SUPPRESSED_SENTINEL" Bundle.listD)
def vx_at0 (own : String) (ic : Nat) (X : String) (names : List String) : List Cond := (Bundle.ownAtoms0 own ic X names).filter vx_no
def vx_atS (own : String) (ic : Nat) (X : String) (names : List String) : List Cond := (Bundle.ownAtoms own ic X names).filter vx_no
/-- a word that the tables alone decide, or a good one -/
def vx_ot (w : Cond) : Bool := w.onTables || goodWord w
theorem vx_ot_at {args a' : Array Value} {s U : State} {w : Cond} (hW : s.WarmedH U.vm) (hvm : s.vm = U.vm) (hg : vx_ot w = true) (h : w.before args s = true) : w.before a' U = true := by
  simp only [vx_ot, Bool.or_eq_true] at hg
  rcases hg with hg | hg
  · exact va_tabs hg hvm h
  · exact word_at hW (good_of_word hg) h
/-- a list's words: the good ones out of the method's own list, the others by premises of their own -/
theorem vx_hat {args : Array Value} {s : State} {L B : List Cond} (h1 : ∀ w ∈ L.filter goodWord, w.before args s = true) (h2 : ∀ w ∈ L.filter (fun w => !goodWord w), w ∈ B) (h3 : ∀ w ∈ B, w.before args s = true) : ∀ w ∈ L, w.before args s = true := by
  intro w hw
  by_cases g : goodWord w = true
  · exact h1 w (List.mem_filter.mpr ⟨hw, g⟩)
  · refine h3 w (h2 w (List.mem_filter.mpr ⟨hw, ?_⟩))
    show (!goodWord w) = true
    cases hgw : goodWord w
    · rfl
    · exact absurd hgw g
theorem vx_c {args : Array Value} {s : State} {w : Cond} {B : List Cond} (h : w.before args s = true) (t : ∀ w ∈ B, w.before args s = true) : ∀ w' ∈ w :: B, w'.before args s = true := fun w' h' => (List.mem_cons.mp h').elim (fun e => by rw [e]; exact h) (t w')
theorem vx_n {args : Array Value} {s : State} : ∀ w ∈ ([] : List Cond), w.before args s = true := fun _ h => nomatch h
theorem vx_own {args : Array Value} {s : State} {L : List Cond} (h1 : ∀ w ∈ L.filter vx_no, w.before args s = true)
    (hU : (Cond.isRef (.static Bundle.tN "UNASSIGNED_STACK" Bundle.steD)).before args s = true) (hN : (Cond.isRef (.static Bundle.tN "SUPPRESSED_SENTINEL" Bundle.listD)).before args s = true)
    (lU : (Cond.laysStatic Bundle.tN "UNASSIGNED_STACK" Bundle.steD).before args s = true) (lN : (Cond.laysStatic Bundle.tN "SUPPRESSED_SENTINEL" Bundle.listD).before args s = true) : ∀ w ∈ L, w.before args s = true := by
  intro w hw
  by_cases e1 : w = .isRef (.static Bundle.tN "UNASSIGNED_STACK" Bundle.steD)
  · rw [e1]; exact hU
  · by_cases e2 : w = .isRef (.static Bundle.tN "SUPPRESSED_SENTINEL" Bundle.listD)
    · rw [e2]; exact hN
    · by_cases e3 : w = .laysStatic Bundle.tN "UNASSIGNED_STACK" Bundle.steD
      · rw [e3]; exact lU
      · by_cases e4 : w = .laysStatic Bundle.tN "SUPPRESSED_SENTINEL" Bundle.listD
        · rw [e4]; exact lN
        · exact h1 w (List.mem_filter.mpr ⟨hw, by unfold vx_no; rw [decide_eq_true e1, decide_eq_true e2, decide_eq_true e3, decide_eq_true e4]; rfl⟩)
/-- where a static field lies, its class's statics cell in H -/
def vx_L (C n d : String) (A : Nat → Prop) (U : State) (H : Heap) : Prop := ∃ (c : ClassId) (k : Class) (i : Nat) (f : Field) (a : Nat) (cell : Cell), U.vm.findClass C = some c ∧ U.fieldFound? C n d = some (c, k, i, f) ∧ f.isStatic = true ∧ k.statics = some a ∧ H[a]? = some cell ∧ cell.vm.isStatics = true ∧ cell.cls = c ∧ f.slot < cell.slots.size ∧ k.staticTypes[f.slot]? = some f.type ∧ ¬ A a
theorem vx_L.moved {C n d : String} {A : Nat → Prop} {u U : State} {H : Heap} (hvm : u.vm.Alike U.vm) (h : vx_L C n d A u H) : vx_L C n d A U H := by
  obtain ⟨c, k, i, f, a, cell, h1, h2, h3, h4, h5, h6, h7, h8, h9, h10⟩ := h
  obtain ⟨k', hi', he⟩ := State.fieldFound?_setVm hvm h2
  exact ⟨c, k', i, f, a, cell, by rw [hvm.findClass]; exact h1, hi', h3, by rw [he]; exact h4, h5, h6, h7, h8, by rw [he]; exact h9, h10⟩
theorem vx_L.kept {C n d : String} {A : Nat → Prop} {U : State} {H H1 : Heap} (h : vx_L C n d A U H) (hq : ∀ a : Nat, a < H.size → ¬ A a → H1[a]? = H[a]?) : vx_L C n d A U H1 := by
  obtain ⟨c, k, i, f, a, cell, h1, h2, h3, h4, h5, h6, h7, h8, h9, h10⟩ := h
  exact ⟨c, k, i, f, a, cell, h1, h2, h3, h4, by rw [hq a (Array.getElem?_eq_some_iff.mp h5).1 h10]; exact h5, h6, h7, h8, h9, h10⟩
theorem vx_L.narrow {C n d : String} {A B : Nat → Prop} {U : State} {H : Heap} (h : vx_L C n d A U H) (hAB : ∀ q, B q → A q) : vx_L C n d B U H := by
  obtain ⟨c, k, i, f, a, cell, h1, h2, h3, h4, h5, h6, h7, h8, h9, h10⟩ := h
  exact ⟨c, k, i, f, a, cell, h1, h2, h3, h4, h5, h6, h7, h8, h9, fun z => h10 (hAB _ z)⟩
theorem vx_L.word {C n d : String} {A : Nat → Prop} {s : State} {args : Array Value} (h : vx_L C n d A s s.heap) : (Cond.laysStatic C n d).before args s = true := by
  obtain ⟨c, k, i, f, a, cell, h1, h2, h3, h4, h5, h6, h7, h8, h9, -⟩ := h
  show (Cond.laysStatic C n d).holds args s none s [] = true
  exact Cond.laysStatic_of h1 h2 h3 h4 h5 h6 h7 h8 h9
/-- .. and what it holds: null or some reference -/
def vx_Zq (C n d : String) (A : Nat → Prop) (U : State) (H : Heap) : Prop := va_Zq C n d A U H ∧ vx_L C n d A U H
theorem vx_Zq.moved {C n d : String} {A : Nat → Prop} {u U : State} {H : Heap} (hvm : u.vm.Alike U.vm) (h : vx_Zq C n d A u H) : vx_Zq C n d A U H := ⟨va_Zq.moved hvm h.1, vx_L.moved hvm h.2⟩
theorem vx_Zq.kept {C n d : String} {A : Nat → Prop} {U : State} {H H1 : Heap} (h : vx_Zq C n d A U H) (hq : ∀ a : Nat, a < H.size → ¬ A a → H1[a]? = H[a]?) : vx_Zq C n d A U H1 := ⟨va_Zq.kept h.1 hq, vx_L.kept h.2 hq⟩
theorem vx_Zq.narrow {C n d : String} {A B : Nat → Prop} {U : State} {H : Heap} (h : vx_Zq C n d A U H) (hAB : ∀ q, B q → A q) : vx_Zq C n d B U H := ⟨va_Zq.narrow h.1 hAB, vx_L.narrow h.2 hAB⟩
theorem vx_Zqof {args : Array Value} {s : State} {C n d : String} {A : Nat → Prop} (hl : (Cond.laysStatic C n d).before args s = true) (hini : (Cond.initialized C).before args s = true) (h : (Cond.isRef (.static C n d)).before args s = true) (hA : ∀ a : Nat, a < s.heap.size → ¬ A a) : vx_Zq C n d A s s.heap := by
  refine ⟨va_Zqof hl hini h hA, ?_⟩
  obtain ⟨c, k, i, f, a, cell, h1, h2, h3, h4, h5, h6, h7, h8, h9⟩ := Cond.laysStatic_spec hl
  exact ⟨c, k, i, f, a, cell, h1, h2, h3, h4, h5, h6, h7, h8, h9, hA a (Array.getElem?_eq_some_iff.mp h5).1⟩
theorem vx_isRef {C n d : String} {v : Value} {A : Nat → Prop} {s : State} {args : Array Value} (h : va_Z C n d v A s s.heap) (hv : v.isRef = true) : (Cond.isRef (.static C n d)).before args s = true := by
  obtain ⟨cf, kf, fi, f, a, cell, h1, h2, h3, h4, h5, h6, h7, -⟩ := h
  have he : (Term.static C n d).eval args s none [] s = some v := by
    simp [Term.eval, State.fieldNamed?, h1, h2, h4, h5, h6, h7]
  simp only [Cond.before, Cond.holds, Cond.value, he]
  cases v <;> simp_all [Value.isRef]
theorem vx_isRefq {C n d : String} {A : Nat → Prop} {s : State} {args : Array Value} (h : va_Zq C n d A s s.heap) : (Cond.isRef (.static C n d)).before args s = true := by
  rcases h with h | ⟨t, h⟩
  · exact vx_isRef h rfl
  · exact vx_isRef h rfl
/-- the same frame, seen from here: as if the method were called anew in this heap -/
theorem vx_rebase {T : State} (X : Stand p l e R s m args below meth c T locs cells slots) {R' : Room} (hf : R'.frames ≤ R.frames) (hl : R'.locals ≤ R.locals) (hc : cells + R'.cells ≤ R.cells) (hs : slots + R'.slots ≤ R.slots) :
    Stand p l e R' ((T.setVm s.vm).setFrames (.invoking m args :: below)) m args below meth c T [] 0 0 := by
  have htop : (T.setVm s.vm).topJava?.isSome := X.here.top
  have hF : ((T.setVm s.vm).setFrames (.invoking m args :: below)).frames = .invoking m args :: below := State.frames_setFrames _ (State.cur_lt_of_top htop)
  obtain ⟨g₀, hg0⟩ := Option.isSome_iff_exists.mp htop
  obtain ⟨r, hr⟩ := State.topJava?_eq_some.mp hg0
  have hl9 : e.platform.stackLimits (T.setVm s.vm).me = e.platform.stackLimits s.me := X.limits
  have hb9 : (T.setVm s.vm).me.stackBytes = s.me.stackBytes := X.bytes
  refine ⟨X.admits, X.cas, X.clock, hF, ?_, X.hears, X.method, X.code, X.here, X.tail, X.warmed, ?_, ?_, ?_⟩
  · have h := X.room
    have hU : ((T.setVm s.vm).setFrames (.invoking m args :: below)).localsInUse = s.localsInUse := by
      rw [State.localsInUse_invoking hF (meth := meth) (c := c) X.method X.code, State.localsInUse_invoking X.frames X.method X.code]
    simp only [State.hasRoom, Bool.and_eq_true, decide_eq_true_eq] at h ⊢
    obtain ⟨⟨⟨⟨h1, h2, h3, h4, h5, h6⟩, h7⟩, h8⟩, h9⟩ := h
    rw [X.frames, List.length_cons] at h2 h3
    have q1 := X.heapSize
    have q2 := X.used
    simp only [hF, hU, List.length_cons, State.stackLimits_setFrames, State.stackBytes_setFrames, hl9, hb9]
    refine ⟨⟨⟨⟨by omega, by omega, by omega, by omega, by omega, h6⟩, ?_⟩, ?_⟩, X.book⟩
    · show T.heap.size + R'.cells ≤ e.platform.maxCells
      omega
    · show T.slotsUsed + R'.slots ≤ e.platform.maxSlots
      omega
  · rw [State.stackLimits_setFrames]; rfl
  · rw [State.stackBytes_setFrames]; rfl
  · refine ⟨?_, Nat.le_refl _, Nat.le_refl _, ?_, ?_, fun a c9 h9 => ⟨c9, h9, rfl, rfl, fun _ _ => rfl⟩⟩
    · obtain ⟨t, ht, -⟩ := State.frames_cons hr
      show T.setVm s.vm = { ((T.setVm s.vm).setFrames (.invoking m args :: below)).setFrames (T.setVm s.vm).frames with heap := T.heap, slotsUsed := T.slotsUsed }
      rw [State.setFrames_setFrames, State.setFrames_self ht]
      rfl
    · show T.slotsUsed = T.slotsUsed + ((T.heap.toList.drop T.heap.size).map (·.slots.size)).sum
      rw [List.drop_eq_nil_of_le (Nat.le_of_eq Array.length_toList)]
      rfl
    · show ((T.heap.toList.drop T.heap.size).map (·.slots.size)).sum ≤ 0
      rw [List.drop_eq_nil_of_le (Nat.le_of_eq Array.length_toList)]
      exact Nat.le_refl _
/-- 'throw new E()': new; dup; invokespecial; athrow -/
theorem vx_throw0 {cc : ByteArray} {pc : Nat} (hexec : p.tables.exec = Jvm.exec) (hb : c.code = cc) (hl : l.stackTraces = false) {own cls : String} {names : List String} {ik ic mc ms : Nat} {A : Nat → Prop}
    (hown : s.vm.findClass own = some m.cls) (hcls : Bundle.fit cls = true) (hnames : ∀ n ∈ names, Bundle.fit n = true)
    (hk : (Cond.classLink own ik cls).before args s = true) (hini : (Cond.initialized cls).before args s = true) (hat : ∀ w ∈ vx_at0 own ic cls names, w.before args s = true)
    (hgood : ∀ w ∈ Cond.classLink own ik cls :: Cond.initialized cls :: vx_at0 own ic cls names, vx_ot w = true)
    (hU : vx_Zq Bundle.tN "UNASSIGNED_STACK" Bundle.steD A s s.heap) (hN : vx_Zq Bundle.tN "SUPPRESSED_SENTINEL" Bundle.listD A s s.heap) (hS : va_S A s.heap H locs) (hsize : ls.size = c.maxLocals)
    (d0 : decode cc pc = .ok (.new ik, 3)) (d3 : decode cc (pc + 3) = .ok (.dup, 1)) (d4 : decode cc (pc + 4) = .ok (.invokespecial ic, 3)) (d7 : decode cc (pc + 7) = .ok (.athrow, 1))
    (hout : ∀ x ∈ c.exceptionTable.toList, covers x (pc + 7) = false)
    (hRframes : names.length + 3 < R.frames) (hRlocals : (rest.map fun v => v.category).sum + (13 * (names.length + 1) + 42) ≤ R.locals) (hRcells : cells + 1 ≤ R.cells) (hRslots : slots + 6 ≤ R.slots) (hlocks : meth.locks = false)
    (hx : ∀ t : State, s.vm.Alike t.vm → H.size ≤ t.heap.size → (∀ q : Nat, q < H.size → t.heap[q]? = H[q]?) → XC cls s t)
    (hf : ∀ z ∈ locs, free z.base) (hc : cells + 1 ≤ mc) (hs : slots + 6 ≤ ms) :
    W p l e R s m args below meth c H locs cells slots (vx_MQ below Qc XC args s mc ms free) (F0 m pc ls rest) := by
  intro T hT X
  have htr : e.platform.stackTraces = false := (show e.platform.stackTraces = l.stackTraces by rw [X.admits.platform]).trans hl
  have Y := vx_rebase X (R' := { frames := R.frames, locals := R.locals, cells := 1, slots := 6 }) (Nat.le_refl _) (Nat.le_refl _) hRcells hRslots
  obtain ⟨s', hA⟩ : ∃ z, z = (T.setVm s.vm).setFrames (.invoking m args :: below) := ⟨_, rfl⟩
  rw [← hA] at Y
  have hvm : s'.vm = s.vm := by rw [hA]; rfl
  have hhp : s'.heap = H := by rw [hA]; exact hT
  have hW0 : s.WarmedH s'.vm := by rw [hvm]; exact State.WarmedH.refl s
  have hat' : ∀ w ∈ vx_at0 own ic cls names, w.before args s' = true := fun w hw => vx_ot_at hW0 hvm.symm (hgood w (List.mem_cons_of_mem _ (List.mem_cons_of_mem _ hw))) (hat w hw)
  have hk' : (Cond.classLink own ik cls).before args s' = true := vx_ot_at hW0 hvm.symm (hgood _ List.mem_cons_self) hk
  have hini' : (Cond.initialized cls).before args s' = true := vx_ot_at hW0 hvm.symm (hgood _ (List.mem_cons_of_mem _ List.mem_cons_self)) hini
  have hU' : vx_Zq Bundle.tN "UNASSIGNED_STACK" Bundle.steD A s' s'.heap := by rw [hhp]; exact vx_Zq.moved hW0.alike (hU.kept hS.2.1)
  have hN' : vx_Zq Bundle.tN "SUPPRESSED_SENTINEL" Bundle.listD A s' s'.heap := by rw [hhp]; exact vx_Zq.moved hW0.alike (hN.kept hS.2.1)
  have h : ∀ w ∈ Bundle.ownAtoms0 own ic cls names, w.before args s' = true := vx_own hat' (vx_isRefq hU'.1) (vx_isRefq hN'.1) hU'.2.word hN'.2.word
  have hown' : s'.vm.findClass own = some m.cls := by rw [hvm]; exact hown
  have hins : (Cond.instantiable cls 6).before args s' = true := h _ (by simp [Bundle.ownAtoms0])
  obtain ⟨vm₁, cX, kX, hfX, hkX, -, -, X₁, st1⟩ := Y.newCold hexec (own := own) (C := cls) (index := ik) (n := 6) hown' hk' hins hini'
    (g := F0 m pc ls rest) rfl (by rw [hb]; exact d0) (Nat.le_refl _) (Nat.le_refl _)
  generalize hT1 : (T.setVm vm₁).pushCell { cls := cX, slots := kX.instanceTypes.map defaultValue, vm := .none } = T1 at X₁ st1
  have hcat : (Value.ref T.heap.size).category = 1 := rfl
  have hcellA : T1.heap[T.heap.size]? = some (freshCell cX kX) := by rw [← hT1]; exact State.heap_pushCell_size _ _
  have d3' : decode c.code (pc + 3) = .ok (.dup, 1) := by rw [hb]; exact d3
  obtain ⟨U, hsteps, hrun, hend, hW, hsame, ce, hce, hO⟩ := X₁.ctorThrow0 hexec htr (own := own) (cls := cls) (names := names) (ic := ic) hown' hcls hnames h (fun x hx => nomatch hx) hfX hkX hcellA (by rw [hhp, hT]; exact Nat.le_refl _)
    (g := { method := m, pc := pc + 4, locals := ls, stack := .ref T.heap.size :: .ref T.heap.size :: rest, locked := none }) rfl hsize rfl rfl (rest := rest) rfl
    (by rw [hb]; exact d4) (by rw [hb]; exact d7) hout hRframes (by simp only [List.map_cons, List.sum_cons, hcat]; omega) hlocks
  obtain ⟨f1, f2⟩ := vx_frame hsame
  rw [hhp] at f1 f2
  have hWs : s.WarmedH U.vm := State.WarmedH.trans hW0 hW
  have hcl : s.vm.findClass cls = some ce.cls := by
    have h9 := hO.cls
    rw [hvm] at h9
    exact h9
  have hall : s.sameButNew ({ U with vm := s.vm } : State) locs mc ms := by
    subst hA
    obtain ⟨e1, e2⟩ := hsame
    rw [State.setFrames_setFrames] at e1
    have h2 : (T.setVm s.vm).sameButNew ({ U with vm := s.vm } : State) [] (0 + 1) (0 + 6) := ⟨e1, e2⟩
    have h3 := X.same.trans h2
    rw [List.append_nil] at h3
    exact h3.mono hc hs
  refine ⟨U, ?_, .threw T.heap.size, hrun, hend, Or.inr ⟨T.heap.size, rfl, cls, ce, locs, hx U hWs.alike f1 (fun q hq => f2 q hq (fun z hz => nomatch hz)), hce, hO.vm, hcl, hWs, hall, hf⟩⟩
  refine st1 _ ?_
  show Steps p.tables e below (T1.setTop { method := m, pc := pc + 3, locals := ls, stack := .ref T.heap.size :: rest, locked := none }) _
  jvm_step X₁.here [X₁.here.top, hexec, d3', Value.category]
  exact hsteps
/-- 'throw new E("text")': new; dup; ldc; invokespecial; athrow -/
theorem vx_throwS {cc : ByteArray} {pc : Nat} (hexec : p.tables.exec = Jvm.exec) (hb : c.code = cc) (hl : l.stackTraces = false) {own cls text : String} {names : List String} {ik is ic mc ms sa : Nat} {A : Nat → Prop}
    (hown : s.vm.findClass own = some m.cls) (hcls : Bundle.fit cls = true) (hnames : ∀ n ∈ names, Bundle.fit n = true)
    (hk : (Cond.classLink own ik cls).before args s = true) (hini : (Cond.initialized cls).before args s = true) (hstr : vk_R own is text sa s) (hat : ∀ w ∈ vx_atS own ic cls names, w.before args s = true)
    (hgood : ∀ w ∈ Cond.classLink own ik cls :: Cond.initialized cls :: vx_atS own ic cls names, vx_ot w = true)
    (hU : vx_Zq Bundle.tN "UNASSIGNED_STACK" Bundle.steD A s s.heap) (hN : vx_Zq Bundle.tN "SUPPRESSED_SENTINEL" Bundle.listD A s s.heap) (hS : va_S A s.heap H locs) (hsize : ls.size = c.maxLocals)
    (d0 : decode cc pc = .ok (.new ik, 3)) (d3 : decode cc (pc + 3) = .ok (.dup, 1)) (d4 : decode cc (pc + 4) = .ok (.ldc is, 2)) (d6 : decode cc (pc + 6) = .ok (.invokespecial ic, 3)) (d9 : decode cc (pc + 9) = .ok (.athrow, 1))
    (hout : ∀ x ∈ c.exceptionTable.toList, covers x (pc + 9) = false)
    (hRframes : names.length + 3 < R.frames) (hRlocals : (rest.map fun v => v.category).sum + (13 * (names.length + 1) + 43) ≤ R.locals) (hRcells : cells + 1 ≤ R.cells) (hRslots : slots + 6 ≤ R.slots) (hlocks : meth.locks = false)
    (hx : ∀ t : State, s.vm.Alike t.vm → H.size ≤ t.heap.size → (∀ q : Nat, q < H.size → t.heap[q]? = H[q]?) → XC cls s t)
    (hf : ∀ z ∈ locs, free z.base) (hc : cells + 1 ≤ mc) (hs : slots + 6 ≤ ms) :
    W p l e R s m args below meth c H locs cells slots (vx_MQ below Qc XC args s mc ms free) (F0 m pc ls rest) := by
  intro T hT X
  have htr : e.platform.stackTraces = false := (show e.platform.stackTraces = l.stackTraces by rw [X.admits.platform]).trans hl
  have Y := vx_rebase X (R' := { frames := R.frames, locals := R.locals, cells := 1, slots := 6 }) (Nat.le_refl _) (Nat.le_refl _) hRcells hRslots
  obtain ⟨s', hA⟩ : ∃ z, z = (T.setVm s.vm).setFrames (.invoking m args :: below) := ⟨_, rfl⟩
  rw [← hA] at Y
  have hvm : s'.vm = s.vm := by rw [hA]; rfl
  have hhp : s'.heap = H := by rw [hA]; exact hT
  have hW0 : s.WarmedH s'.vm := by rw [hvm]; exact State.WarmedH.refl s
  have hat' : ∀ w ∈ vx_atS own ic cls names, w.before args s' = true := fun w hw => vx_ot_at hW0 hvm.symm (hgood w (List.mem_cons_of_mem _ (List.mem_cons_of_mem _ hw))) (hat w hw)
  have hk' : (Cond.classLink own ik cls).before args s' = true := vx_ot_at hW0 hvm.symm (hgood _ List.mem_cons_self) hk
  have hini' : (Cond.initialized cls).before args s' = true := vx_ot_at hW0 hvm.symm (hgood _ (List.mem_cons_of_mem _ List.mem_cons_self)) hini
  have hU' : vx_Zq Bundle.tN "UNASSIGNED_STACK" Bundle.steD A s' s'.heap := by rw [hhp]; exact vx_Zq.moved hW0.alike (hU.kept hS.2.1)
  have hN' : vx_Zq Bundle.tN "SUPPRESSED_SENTINEL" Bundle.listD A s' s'.heap := by rw [hhp]; exact vx_Zq.moved hW0.alike (hN.kept hS.2.1)
  have h : ∀ w ∈ Bundle.ownAtoms own ic cls names, w.before args s' = true := vx_own hat' (vx_isRefq hU'.1) (vx_isRefq hN'.1) hU'.2.word hN'.2.word
  have hown' : s'.vm.findClass own = some m.cls := by rw [hvm]; exact hown
  have hins : (Cond.instantiable cls 6).before args s' = true := h _ (by simp [Bundle.ownAtoms])
  obtain ⟨vm₁, cX, kX, hfX, hkX, -, -, X₁, st1⟩ := Y.newCold hexec (own := own) (C := cls) (index := ik) (n := 6) hown' hk' hins hini'
    (g := F0 m pc ls rest) rfl (by rw [hb]; exact d0) (Nat.le_refl _) (Nat.le_refl _)
  generalize hT1 : (T.setVm vm₁).pushCell { cls := cX, slots := kX.instanceTypes.map defaultValue, vm := .none } = T1 at X₁ st1
  have hcat : (Value.ref T.heap.size).category = 1 := rfl
  have hcellA : T1.heap[T.heap.size]? = some (freshCell cX kX) := by rw [← hT1]; exact State.heap_pushCell_size _ _
  have d3' : decode c.code (pc + 3) = .ok (.dup, 1) := by rw [hb]; exact d3
  have d4' : decode c.code (pc + 4) = .ok (.ldc is, 2) := by rw [hb]; exact d4
  have hstr' : vk_R own is text sa s' := vk_R.warm hW0 hstr
  obtain ⟨U, hsteps, hrun, hend, hW, hsame, ce, hce, hO⟩ := X₁.ctorThrowS hexec htr (own := own) (cls := cls) (names := names) (ic := ic) hown' hcls hnames h (fun x hx => nomatch hx) hfX hkX hcellA (by rw [hhp, hT]; exact Nat.le_refl _) (msg := .ref sa) rfl
    (g := { method := m, pc := pc + 6, locals := ls, stack := .ref sa :: .ref T.heap.size :: .ref T.heap.size :: rest, locked := none }) rfl hsize rfl rfl (rest := rest) rfl
    (by rw [hb]; exact d6) (by rw [hb]; exact d9) hout hRframes (by simp only [List.map_cons, List.sum_cons, hcat]; omega) hlocks
  obtain ⟨f1, f2⟩ := vx_frame hsame
  rw [hhp] at f1 f2
  have hWs : s.WarmedH U.vm := State.WarmedH.trans hW0 hW
  have hcl : s.vm.findClass cls = some ce.cls := by
    have h9 := hO.cls
    rw [hvm] at h9
    exact h9
  have hall : s.sameButNew ({ U with vm := s.vm } : State) locs mc ms := by
    subst hA
    obtain ⟨e1, e2⟩ := hsame
    rw [State.setFrames_setFrames] at e1
    have h2 : (T.setVm s.vm).sameButNew ({ U with vm := s.vm } : State) [] (0 + 1) (0 + 6) := ⟨e1, e2⟩
    have h3 := X.same.trans h2
    rw [List.append_nil] at h3
    exact h3.mono hc hs
  refine ⟨U, ?_, .threw T.heap.size, hrun, hend, Or.inr ⟨T.heap.size, rfl, cls, ce, locs, hx U hWs.alike f1 (fun q hq => f2 q hq (fun z hz => nomatch hz)), hce, hO.vm, hcl, hWs, hall, hf⟩⟩
  refine st1 _ ?_
  show Steps p.tables e below (T1.setTop { method := m, pc := pc + 3, locals := ls, stack := .ref T.heap.size :: rest, locked := none }) _
  jvm_step X₁.here [X₁.here.top, hexec, d3', Value.category]
  exact X₁.ldcString hexec (own := own) (text := text) (index := is) (a := sa) hown' hstr'.1 hstr'.2
    (g := { method := m, pc := pc + 4, locals := ls, stack := .ref T.heap.size :: .ref T.heap.size :: rest, locked := none }) rfl d4' _ hsteps
/-- 'throw new E("text")', the text by a wide index -/
theorem vx_throwSW {cc : ByteArray} {pc : Nat} (hexec : p.tables.exec = Jvm.exec) (hb : c.code = cc) (hl : l.stackTraces = false) {own cls text : String} {names : List String} {ik is ic mc ms sa : Nat} {A : Nat → Prop}
    (hown : s.vm.findClass own = some m.cls) (hcls : Bundle.fit cls = true) (hnames : ∀ n ∈ names, Bundle.fit n = true)
    (hk : (Cond.classLink own ik cls).before args s = true) (hini : (Cond.initialized cls).before args s = true) (hstr : vk_R own is text sa s) (hat : ∀ w ∈ vx_atS own ic cls names, w.before args s = true)
    (hgood : ∀ w ∈ Cond.classLink own ik cls :: Cond.initialized cls :: vx_atS own ic cls names, vx_ot w = true)
    (hU : vx_Zq Bundle.tN "UNASSIGNED_STACK" Bundle.steD A s s.heap) (hN : vx_Zq Bundle.tN "SUPPRESSED_SENTINEL" Bundle.listD A s s.heap) (hS : va_S A s.heap H locs) (hsize : ls.size = c.maxLocals)
    (d0 : decode cc pc = .ok (.new ik, 3)) (d3 : decode cc (pc + 3) = .ok (.dup, 1)) (d4 : decode cc (pc + 4) = .ok (.ldc_w is, 3)) (d7 : decode cc (pc + 7) = .ok (.invokespecial ic, 3)) (d10 : decode cc (pc + 10) = .ok (.athrow, 1))
    (hout : ∀ x ∈ c.exceptionTable.toList, covers x (pc + 10) = false)
    (hRframes : names.length + 3 < R.frames) (hRlocals : (rest.map fun v => v.category).sum + (13 * (names.length + 1) + 43) ≤ R.locals) (hRcells : cells + 1 ≤ R.cells) (hRslots : slots + 6 ≤ R.slots) (hlocks : meth.locks = false)
    (hx : ∀ t : State, s.vm.Alike t.vm → H.size ≤ t.heap.size → (∀ q : Nat, q < H.size → t.heap[q]? = H[q]?) → XC cls s t)
    (hf : ∀ z ∈ locs, free z.base) (hc : cells + 1 ≤ mc) (hs : slots + 6 ≤ ms) :
    W p l e R s m args below meth c H locs cells slots (vx_MQ below Qc XC args s mc ms free) (F0 m pc ls rest) := by
  intro T hT X
  have htr : e.platform.stackTraces = false := (show e.platform.stackTraces = l.stackTraces by rw [X.admits.platform]).trans hl
  have Y := vx_rebase X (R' := { frames := R.frames, locals := R.locals, cells := 1, slots := 6 }) (Nat.le_refl _) (Nat.le_refl _) hRcells hRslots
  obtain ⟨s', hA⟩ : ∃ z, z = (T.setVm s.vm).setFrames (.invoking m args :: below) := ⟨_, rfl⟩
  rw [← hA] at Y
  have hvm : s'.vm = s.vm := by rw [hA]; rfl
  have hhp : s'.heap = H := by rw [hA]; exact hT
  have hW0 : s.WarmedH s'.vm := by rw [hvm]; exact State.WarmedH.refl s
  have hat' : ∀ w ∈ vx_atS own ic cls names, w.before args s' = true := fun w hw => vx_ot_at hW0 hvm.symm (hgood w (List.mem_cons_of_mem _ (List.mem_cons_of_mem _ hw))) (hat w hw)
  have hk' : (Cond.classLink own ik cls).before args s' = true := vx_ot_at hW0 hvm.symm (hgood _ List.mem_cons_self) hk
  have hini' : (Cond.initialized cls).before args s' = true := vx_ot_at hW0 hvm.symm (hgood _ (List.mem_cons_of_mem _ List.mem_cons_self)) hini
  have hU' : vx_Zq Bundle.tN "UNASSIGNED_STACK" Bundle.steD A s' s'.heap := by rw [hhp]; exact vx_Zq.moved hW0.alike (hU.kept hS.2.1)
  have hN' : vx_Zq Bundle.tN "SUPPRESSED_SENTINEL" Bundle.listD A s' s'.heap := by rw [hhp]; exact vx_Zq.moved hW0.alike (hN.kept hS.2.1)
  have h : ∀ w ∈ Bundle.ownAtoms own ic cls names, w.before args s' = true := vx_own hat' (vx_isRefq hU'.1) (vx_isRefq hN'.1) hU'.2.word hN'.2.word
  have hown' : s'.vm.findClass own = some m.cls := by rw [hvm]; exact hown
  have hins : (Cond.instantiable cls 6).before args s' = true := h _ (by simp [Bundle.ownAtoms])
  obtain ⟨vm₁, cX, kX, hfX, hkX, -, -, X₁, st1⟩ := Y.newCold hexec (own := own) (C := cls) (index := ik) (n := 6) hown' hk' hins hini'
    (g := F0 m pc ls rest) rfl (by rw [hb]; exact d0) (Nat.le_refl _) (Nat.le_refl _)
  generalize hT1 : (T.setVm vm₁).pushCell { cls := cX, slots := kX.instanceTypes.map defaultValue, vm := .none } = T1 at X₁ st1
  have hcat : (Value.ref T.heap.size).category = 1 := rfl
  have hcellA : T1.heap[T.heap.size]? = some (freshCell cX kX) := by rw [← hT1]; exact State.heap_pushCell_size _ _
  have d3' : decode c.code (pc + 3) = .ok (.dup, 1) := by rw [hb]; exact d3
  have d4' : decode c.code (pc + 4) = .ok (.ldc_w is, 3) := by rw [hb]; exact d4
  have hstr' : vk_R own is text sa s' := vk_R.warm hW0 hstr
  obtain ⟨U, hsteps, hrun, hend, hW, hsame, ce, hce, hO⟩ := X₁.ctorThrowS hexec htr (own := own) (cls := cls) (names := names) (ic := ic) hown' hcls hnames h (fun x hx => nomatch hx) hfX hkX hcellA (by rw [hhp, hT]; exact Nat.le_refl _) (msg := .ref sa) rfl
    (g := { method := m, pc := pc + 7, locals := ls, stack := .ref sa :: .ref T.heap.size :: .ref T.heap.size :: rest, locked := none }) rfl hsize rfl rfl (rest := rest) rfl
    (by rw [hb]; exact d7) (by rw [hb]; exact d10) hout hRframes (by simp only [List.map_cons, List.sum_cons, hcat]; omega) hlocks
  obtain ⟨f1, f2⟩ := vx_frame hsame
  rw [hhp] at f1 f2
  have hWs : s.WarmedH U.vm := State.WarmedH.trans hW0 hW
  have hcl : s.vm.findClass cls = some ce.cls := by
    have h9 := hO.cls
    rw [hvm] at h9
    exact h9
  have hall : s.sameButNew ({ U with vm := s.vm } : State) locs mc ms := by
    subst hA
    obtain ⟨e1, e2⟩ := hsame
    rw [State.setFrames_setFrames] at e1
    have h2 : (T.setVm s.vm).sameButNew ({ U with vm := s.vm } : State) [] (0 + 1) (0 + 6) := ⟨e1, e2⟩
    have h3 := X.same.trans h2
    rw [List.append_nil] at h3
    exact h3.mono hc hs
  refine ⟨U, ?_, .threw T.heap.size, hrun, hend, Or.inr ⟨T.heap.size, rfl, cls, ce, locs, hx U hWs.alike f1 (fun q hq => f2 q hq (fun z hz => nomatch hz)), hce, hO.vm, hcl, hWs, hall, hf⟩⟩
  refine st1 _ ?_
  show Steps p.tables e below (T1.setTop { method := m, pc := pc + 3, locals := ls, stack := .ref T.heap.size :: rest, locked := none }) _
  jvm_step X₁.here [X₁.here.top, hexec, d3', Value.category]
  exact X₁.ldcStringW hexec (own := own) (text := text) (index := is) (a := sa) hown' hstr'.1 hstr'.2
    (g := { method := m, pc := pc + 4, locals := ls, stack := .ref T.heap.size :: .ref T.heap.size :: rest, locked := none }) rfl d4' _ hsteps
end Ends
section Bodies
variable {l : Launch}
theorem vx_ofW {y : MethodName} {ws ws' : List Cond} {rm : Room} {Pc : Array Value → State → Prop} {Qc : Array Value → State → Outcome → State → Prop} {XC : String → State → State → Prop} {mc ms : Nat} {free : Addr → Prop} {cc : ByteArray} {maxL : Nat} {ret : Option FieldType}
    (hy : plainName y.cls = true) (hw : ws = Cond.code y cc maxL ret :: ws')
    (body : ∀ p e s m args below meth c s₁, BodyLoose p l y (headSpec ws rm) cc maxL ret e s m args below meth c s₁ → c.maxLocals = maxL → (∀ x ∈ c.exceptionTable.toList, False) → Pc args s →
      W p l e (headSpec ws rm).room s m args below meth c s.heap [] 0 0 (vx_MQ below Qc XC args s mc ms free) (entryFrame m args maxL)) : vx_Met l y ws rm Pc Qc XC mc ms free := by
  refine MetFree.of_bodyS (code := cc) (maxLocals := maxL) (ret := ret) hy ?_ ?_
  · intro args s m h hn
    obtain ⟨meth, c, h1, h2, h3, h4, h5, h6, -, -⟩ := Cond.code_spec hn (atoms_spec (ws := ws) h _ (by rw [hw]; exact List.mem_cons_self))
    exact ⟨meth, c, h1, h2, h3, h4, h5, h6⟩
  · intro p e s m args below meth c s₁ B hml hP _
    have hh0 : s₁.heap = s.heap := by rw [B.state]; rfl
    have ht : ∀ x ∈ c.exceptionTable.toList, False := by
      obtain ⟨meth9, c9, h1, h2, -, -, -, -, h7, -⟩ := Cond.code_spec B.named (atoms_spec (ws := ws) B.pre _ (by rw [hw]; exact List.mem_cons_self))
      cases Option.some.inj (h1.symm.trans B.method)
      cases Option.some.inj (h2.symm.trans (Stand.of_body B).code)
      intro x hx
      rw [Array.isEmpty_iff.mp h7] at hx
      cases hx
    obtain ⟨t, a1, o, b1, b2, b3⟩ := body p e s m args below meth c s₁ B hml ht hP s₁ hh0 (Stand.of_body B)
    exact ⟨t, o, a1, b1, b2, b3⟩
/-- the table of a body with handlers -/
theorem vx_table {p : Program} {x y : MethodName} {S : Spec} {cc bytes : ByteArray} {maxL maxL' : Nat} {ret ret' : Option FieldType} {e : Env} {s s₁ : State} {m : MethodId} {args : Array Value} {below : List Frame} {meth : Method} {c : Code} {hh : List (Nat × Nat × Nat × Nat)}
    (B : BodyLoose p l y S cc maxL ret e s m args below meth c s₁) (h : (Cond.codeWith y bytes maxL' ret' hh).before args s = true) : c.exceptionTable.toList = tableOf hh := by
  obtain ⟨m9, meth9, c9, hn9, h1, h2, -, -, h6, -⟩ := Cond.codeWith_spec h
  cases Option.some.inj (hn9.symm.trans B.named)
  cases Option.some.inj (h1.symm.trans B.method)
  cases Option.some.inj (h2.symm.trans (Stand.of_body B).code)
  rw [← h6, table_eq]
end Bodies
end VXA
/-! ===== END ===== -/
/-! ===== BEGIN a static call of a method with an exception table ===== -/
section VXS
variable {p : Program} {l : Launch} {e : Env} {R : Room} {s : State} {m : MethodId} {args : Array Value} {below : List Frame} {meth : Method} {c : Code} {T : State} {H : Heap} {locs : List Loc} {cells slots : Nat}
abbrev vx_CSW (R : Room) (s : State) (args : Array Value) (own : String) (index : Nat) (y : MethodName) (bytes : ByteArray) (maxL : Nat) (ret : Option FieldType) (hh : List (Nat × Nat × Nat × Nat)) (ws : List Cond) (rm : Room) (mc ms n : Nat) : Prop :=
  (rm.cells = mc ∧ rm.slots = ms ∧ rm.frames + 1 ≤ R.frames ∧ 8 + (maxL + 11) + rm.locals ≤ R.locals ∧ (∀ w ∈ ws, ∀ (a' : Array Value) (U : State), s.WarmedH U.vm → w.before a' U = true) ∧ Cond.codeWith y bytes maxL ret hh ∈ ws) ∧
  (Cond.codeWith y bytes maxL ret hh).before args s = true ∧ (Cond.initialized y.cls).before args s = true ∧ (y.cls ≠ "java/lang/invoke/MethodHandle" ∧ y.cls ≠ "java/lang/invoke/VarHandle") ∧
  (∀ sig, parseMethodDescriptor y.desc = some sig → n = sig.parameters.length) ∧ (Cond.methodLink own index y).before args s = true ∧ (Cond.static y).before args s = true
theorem vx_cwSW {own : String} {index maxL mc ms : Nat} {y : MethodName} {bytes : ByteArray} {ret : Option FieldType} {hh : List (Nat × Nat × Nat × Nat)} {Ts ws ws' : List Cond} {rm : Room} (n : Nat) (ht : ∀ w ∈ Ts, w.before args s = true) (hT : GoodIn Ts (va_wsS own index y ws)) (hw : ws = Cond.codeWith y bytes maxL ret hh :: ws') (hrc : rm.cells = mc) (hrs : rm.slots = ms)
    (hd : y.cls ≠ "java/lang/invoke/MethodHandle" ∧ y.cls ≠ "java/lang/invoke/VarHandle" ∧ (parseMethodDescriptor y.desc).map (fun d => d.parameters.length) = some n) (hR : rm.frames + 1 ≤ R.frames ∧ 8 + (maxL + 11) + rm.locals ≤ R.locals) :
    vx_CSW R s args own index y bytes maxL ret hh ws rm mc ms n := by
  have ok : ∀ w ∈ va_wsS own index y ws, w.before args s = true := fun w h => ht w (hT w h).1
  have hG : GoodIn Ts ws := fun w h => hT w (by unfold va_wsS; exact List.mem_append_right _ h)
  have hc : Cond.codeWith y bytes maxL ret hh ∈ ws := by rw [hw]; exact List.mem_cons_self
  refine ⟨⟨hrc, hrs, hR.1, hR.2, pay_in ht hG, hc⟩, ht _ (hG _ hc).1, ok _ (by simp [va_wsS]), ⟨hd.1, hd.2.1⟩, fun sig h => ?_, ok _ (by simp [va_wsS]), ok _ (by simp [va_wsS])⟩
  have h2 := hd.2.2
  rw [h] at h2
  exact (Option.some.inj h2).symm
theorem vx_callSW (X : Stand p l e R s m args below meth c T locs cells slots) (hexec : p.tables.exec = Jvm.exec) {own : String} {index : Nat} {y : MethodName} {bytes : ByteArray} {maxL : Nat} {ret : Option FieldType} {hh : List (Nat × Nat × Nat × Nat)}
    (hown : s.vm.findClass own = some m.cls) (hlink : (Cond.methodLink own index y).before args s = true) (hstat : (Cond.static y).before args s = true) (hinit : (Cond.initialized y.cls).before args s = true)
    (hcode : (Cond.codeWith y bytes maxL ret hh).before args s = true) (hy : y.cls ≠ "java/lang/invoke/MethodHandle" ∧ y.cls ≠ "java/lang/invoke/VarHandle")
    {W9 : Nat} {Pre : Pt → Array Value → Prop} {Post : Pt → Array Value → Option Value → Pt → Prop} (hK : Back l R p e below s args y 3 W9 Pre Post)
    {g : JFrame} (hg : g.method = m) (hsize : g.locals.size = c.maxLocals) {argsL rest : List Value} (hlen : ∀ sig, parseMethodDescriptor y.desc = some sig → argsL.length = sig.parameters.length)
    (hstack : g.stack = argsL.reverse ++ rest) (hW : 2 * g.monitorRoom + (rest.map fun v => v.category).sum ≤ W9) (hdg : decode c.code g.pc = .ok (.invokestatic index, 3))
    (hpre : ∀ vm₁, s.WarmedH vm₁ → Pre ⟨T.setVm vm₁, locs, cells, slots⟩ argsL.toArray) :
    ∃ (v : Option Value) (vm₁ : Vm) (B : Pt), s.WarmedH vm₁ ∧ Stand p l e R s m args below meth c B.U B.locs B.cells B.slots ∧ Post ⟨T.setVm vm₁, locs, cells, slots⟩ argsL.toArray v B ∧
      ∀ target, Steps p.tables e below (B.U.setTop { g with pc := g.pc + 3, stack := v.toList ++ rest }) target → Steps p.tables e below (T.setTop g) target := by
  obtain ⟨mk, methM, cM, hnamed, hmethM, -, -, -, -, -, -, hsigM⟩ := Cond.codeWith_spec hcode
  have hstatic : methM.isStatic = true := Cond.static_spec hnamed hmethM hstat
  obtain ⟨kP, hkP, -⟩ := className_of_methodNamed hnamed
  have hinitP : kP.init = .initialized := Cond.initialized_spec (findClass_of_methodNamed hnamed) hkP hinit
  obtain ⟨vm₁, X₁, hstep₁⟩ := X.invokestatic hexec hown hlink hnamed hmethM hstatic hkP hinitP hy (g := g) hg (argsL := argsL) (rest := rest) (hlen _ hsigM) hstack hdg
  obtain ⟨v, B, X', hpost, hsteps⟩ := hK m meth c ⟨T.setVm vm₁, locs, cells, slots⟩ { g with stack := rest } (.invokestatic index) mk argsL.toArray X₁ hg hsize hdg hW (X₁.named hnamed) (hpre vm₁ X₁.warmed)
  exact ⟨v, vm₁, B, X₁.warmed, X', hpost, fun target h => hstep₁ _ fun acts => by rw [doInvoke_state]; exact hsteps.trans h⟩
theorem vx_runSW {y : MethodName} {bytes cc : ByteArray} {maxL nL mc ms n index : Nat} {ret : Option FieldType} {hh : List (Nat × Nat × Nat × Nat)} {ws : List Cond} {rm : Room} {Pc : Array Value → State → Prop} {Qc : Array Value → State → Outcome → State → Prop} {free : Addr → Prop} {Ts : List Cond} {own : String} {As rest : List Value} {g : JFrame}
    (S : CallFix p m c cc nL s args Ts own) (hM : Met l y ws rm Pc Qc mc ms free) (cw : vx_CSW R s args own index y bytes maxL ret hh ws rm mc ms n) (hp : PreS s H Pc As)
    (hg : g.method = m) (hn : As.length = n) (hsize : g.locals.size = nL) (hstack : g.stack = As.reverse ++ rest) (hW : 2 * g.monitorRoom + (rest.map fun v => v.category).sum ≤ 8) (hdg : decode cc g.pc = .ok (.invokestatic index, 3)) (hf : cells + mc ≤ R.cells ∧ slots + ms ≤ R.slots) :
    va_Run p l e R s m args below meth c H locs cells slots mc ms g rest (Qc As.toArray) (free) := by
  obtain ⟨⟨hrc, hrs, hfr, hlo, hws, hcw⟩, hcode, hini, hy, hlen, hl, hstt⟩ := cw
  have hK : Back l R p e below s args y 3 8 (PreOf R mc ms Pc) (PostOf Qc mc ms free) := va_backW (hh := hh) (bytes := bytes) (maxL := maxL) (ret := ret) hM hp.1 hrc hrs hfr hlo hws hcw (fun a' U hW => word_at hW (Or.inl (by first | rfl | simp [Cond.onTables, Cond.keeps, Cond.steady])) hini)
  obtain ⟨hx, hb, hml, ho, -⟩ := S
  intro T hT X
  obtain ⟨v, vm₁, ⟨U', l2, c2, s2⟩, hW₁, X', ⟨g', mk, t, L, e1, e2, hq, h1, hL, h2, h3⟩, st⟩ := vx_callSW X hx (hh := hh) (bytes := bytes) (maxL := maxL) (ret := ret) ho hl hstt hini hcode hy hK hg (hsize.trans hml.symm) (argsL := As) (rest := rest) (fun sig h => hn.trans (hlen sig h)) hstack hW (by rw [hb]; exact hdg)
    (fun vm₁ hW₁ => ⟨hf.1, hf.2, hp.2 (T.setVm vm₁) hT hW₁⟩)
  dsimp only [Pt.U, Pt.locs, Pt.cells, Pt.slots] at X' e1 e2 h1 h2 h3 st
  subst h1; subst h2; subst h3
  exact ⟨v, (T.setVm vm₁).calling g' mk As.toArray, t, U', L, hT, X', hL, e1, e2, hq, st⟩
/-- not caught here, past rows that name other classes: it goes on to the caller -/
theorem vx_outP {p : Program} {l : Launch} {e : Env} {R : Room} {s : State} {m : MethodId} {args : Array Value} {below : List Frame} {meth : Method} {c : Code} {H : Heap} {locs : List Loc} {cells slots : Nat} {free : Addr → Prop} {ls : Array Slot} {rest : List Value} {Qc : Array Value → State → Outcome → State → Prop} {XC : String → State → State → Prop}
    {pc : Nat} {own E : String} {ce : Cell} {q : Addr} {mc ms : Nat} (hown : s.vm.findClass own = some m.cls) (hlocks : meth.locks = false)
    (hpass : ∀ z ∈ c.exceptionTable.toList, covers z pc = false ∨ (z.catchType ≠ 0 ∧ ∃ nm : String, (Cond.classLink own z.catchType nm).before args s = true ∧ va_Nc E nm s)) (hcell : H[q]? = some ce) (hv : ce.vm = .none) (hcl : s.vm.findClass E = some ce.cls)
    (hx : ∀ t : State, t.heap = H → s.vm.Alike t.vm → XC E s t) (hf : ∀ z ∈ locs, free z.base) (hc : cells ≤ mc) (hs : slots ≤ ms) :
    vx_W p l e R s m args below meth c H locs cells slots (vx_MQ below Qc XC args s mc ms free) (F0 m pc ls rest) q := by
  intro T hT X
  have hpl : e.platform.magicAccessors = ({} : Platform).magicAccessors := by rw [X.admits.platform]
  obtain ⟨vm', hW', X', st⟩ := X.outThrough hlocks q (g := F0 m pc ls rest) rfl rfl rfl (cell := ce) (by rw [hT]; exact hcell) (by rw [hv]; rfl)
    (by obtain ⟨k9, h9, -⟩ := Vm.findClass_spec hcl; exact ⟨k9, h9⟩) (fun z hz => by
      rcases hpass z hz with h | ⟨hz0, nm, hl1, hn1⟩
      · exact Or.inl h
      · obtain ⟨c6, hc6, hcl6⟩ := Cond.classLink_spec hown hl1 e.platform hpl
        obtain ⟨a8, b8, h1, h2, h3⟩ := hn1
        cases Option.some.inj (h1.symm.trans hcl)
        cases Option.some.inj (h2.symm.trans hc6)
        exact Or.inr ⟨hz0, _, hcl6, h3⟩)
  obtain ⟨g₀, hfr⟩ := X'.frames_eq
  have hcell9 : ((T.setVm vm').setFrames (.throwing q :: below)).heap[q]? = some ce := by
    show T.heap[q]? = some ce
    rw [hT]; exact hcell
  have hend : Ended ((T.setVm vm').setFrames (.throwing q :: below)) below (.threw q) := State.frames_setFrames _ (State.cur_lt_of_frames hfr)
  refine ⟨(T.setVm vm').setFrames (.throwing q :: below), ?_, .threw q, X'.here.running, hend, Or.inr ⟨q, rfl, E, ce, locs, hx _ hT (X'.ends _).1.alike, hcell9, hv, hcl, (X'.ends _).1, (X'.ends _).2.mono hc hs, hf⟩⟩
  rw [X.pushThrowing_eq]
  exact st
/-- a thing of a world lies in the heap -/
theorem vx_lt {D : va_G} {cl : List vw_C} {ws : va_W} {H1 : Heap} (h : va_P D cl ws H1) {k : Nat} {q : Nat × va_E} (hk : ws[k]? = some q) : q.1 < H1.size := (h k q hk).lt
end VXS
/-! ===== END ===== -/
/-! ===== BEGIN methods with a table of their own: called by a name, returning or throwing ===== -/
section VXH
/-! vx_backW, vx_callVX, vx_callSX, vx_callVW, vx_runVW, vx_runVX, vx_runSX, vx_ofWH follow the same proofs as their sisters above (Free/Laws.lean, Shelf42/LK1.lean); vx_outP calls Shelf42/NT130.lean (outThrough). -/
section
variable {l : Launch} {R : Room} {p : Program} {e : Env} {below : List Frame} {s : State} {sargs : Array Value} {y : MethodName} {len W9 : Nat}
theorem vx_backW {ws : List Cond} {rm : Room} {Pc : Array Value → State → Prop} {Qc : Array Value → State → Outcome → State → Prop} {XC : String → State → State → Prop} {mc ms : Nat} {free : Addr → Prop} {bytes : ByteArray} {maxL : Nat} {ret : Option FieldType} {hh : List (Nat × Nat × Nat × Nat)}
    (hM : vx_Met l y ws rm Pc Qc XC mc ms free) (hblind : FrameBlind Pc) (hrc : rm.cells = mc) (hrs : rm.slots = ms)
    (hframes : rm.frames + 1 ≤ R.frames) (hlocals : W9 + (maxL + 11) + rm.locals ≤ R.locals)
    (hws : ∀ w ∈ ws, ∀ a' U, s.WarmedH U.vm → w.before a' U = true) (hcode : Cond.codeWith y bytes maxL ret hh ∈ ws) (hinit : ∀ a' U, s.WarmedH U.vm → (Cond.initialized y.cls).before a' U = true) :
    vx_Back l R p e below s sargs y len W9 (PreOf R mc ms Pc) (PostOf Qc mc ms free) (vx_Post XC mc ms free) := by
  intro m meth c A g ig mk a X hg hsize hdg hW hn hp
  have h1 : (headSpec ws rm).pre.before a A.U = true := atoms_intro fun w hw => hws w hw _ _ X.warmed
  have h2 : (Cond.codeWith y bytes maxL ret hh).before a A.U = true := hws _ hcode _ _ X.warmed
  have h3 : (Cond.initialized y.cls).before a A.U = true := hinit _ _ X.warmed
  have h4 : A.cells + (headSpec ws rm).room.cells ≤ R.cells := by rw [show (headSpec ws rm).room.cells = mc from hrc]; exact hp.1
  have h5 : A.slots + (headSpec ws rm).room.slots ≤ R.slots := by rw [show (headSpec ws rm).room.slots = ms from hrs]; exact hp.2.1
  have hPc : Pc a (A.U.calling g mk a) := hblind _ _ _ _ hp.2.2
  obtain ⟨U, Ls, c0, s0⟩ := A
  dsimp only [Pt.U, Pt.locs, Pt.cells, Pt.slots] at h1 h2 h3 h4 h5 X hn hPc ⊢
  obtain ⟨m9, methY, cY, hn9, hmY, hcY, -, hlY, -⟩ := Cond.codeWith_spec h2
  cases Option.some.inj (hn9.symm.trans hn)
  obtain ⟨kY, hkY, -⟩ := className_of_methodNamed hn
  have hinitY : kY.init = .initialized := Cond.initialized_spec (findClass_of_methodNamed hn) hkY h3
  have h : At U g.method c below := by rw [hg]; exact X.here
  have hlocals9 : W9 + (maxL + 11) + (headSpec ws rm).room.locals ≤ R.locals := hlocals
  have happ : (headSpec ws rm).appliesLoose y e.platform (U.calling g mk a) = true :=
    Spec.appliesLoose_calling (g := g) h hdg hn hkY hinitY
      (X.room_calling (g := g) (R' := (headSpec ws rm).room) hsize hmY hcY hframes (by rw [hlY]; omega) h4 h5) h1
  obtain ⟨mid, hmid⟩ := h.above
  have hfr : (U.setTop g).frames = (.java g :: mid) ++ below := by rw [State.frames_setTop' g h.top, hmid]; rfl
  obtain ⟨o, s₂, hsteps, -, hend, hq⟩ := Steps.callFree hM p X.admits X.cas X.clock (acts := []) hfr happ hPc trivial
  have hq' : vx_Q Qc XC mc ms free a (U.calling g mk a) o s₂ := hq
  rw [State.frames_setTop' g h.top] at hend
  obtain ⟨g₀, hg0⟩ := Option.isSome_iff_exists.mp h.top
  obtain ⟨r, hr⟩ := State.topJava?_eq_some.mp hg0
  have hr' : (({ U with heap := s₂.heap, slotsUsed := s₂.slotsUsed } : State).setVm s₂.vm).frames = .java g₀ :: r := hr
  rcases hq' with ⟨hqc, L, hfe, hL⟩ | ⟨q, rfl, E, ce, L, hx, hce, hcv, hcl, hW₂, hsm, hL⟩
  · obtain ⟨⟨v, rfl⟩, hW₂, e2, q2, q3, q4, q5, q6⟩ := id hfe
    have e3 : s₂ = ({ (U.calling g mk a).setFrames s₂.frames with heap := s₂.heap, slotsUsed := s₂.slotsUsed } : State).setVm s₂.vm := by
      have : s₂ = ({ s₂ with vm := (U.calling g mk a).vm } : State).setVm s₂.vm := rfl
      rw [e2] at this
      exact this
    obtain ⟨c₂, i₂, len₂, hc₂, hd₂, hf₂⟩ := hend
    have hW' : U.WarmedH s₂.vm := hW₂
    have hcc : c₂ = c := by
      have h1 : s₂.code? g.method = U.code? g.method := by
        rw [State.code?_eq, State.code?_eq, hW'.alike.method?]
      exact Option.some.inj (hc₂.symm.trans (h1.trans h.code))
    subst hcc
    have hlen : len₂ = len := by rw [hdg] at hd₂; cases hd₂; rfl
    subst hlen
    have hs₂ : s₂ = (({ U with heap := s₂.heap, slotsUsed := s₂.slotsUsed } : State).setVm s₂.vm).setTop { g with pc := g.pc + len₂, stack := v.toList ++ g.stack } := by
      refine e3.trans ?_
      rw [hf₂, State.calling_eq h.top, State.setFrames_setFrames, State.setTop_of_frames _ hr', hr]
      rfl
    have hsame : U.sameButNew ({ U with heap := s₂.heap, slotsUsed := s₂.slotsUsed } : State) L mc ms := by
      refine ⟨?_, q2, q3, q4, q5, q6⟩
      obtain ⟨t, ht, -⟩ := State.frames_cons hr
      show ({ U with heap := s₂.heap, slotsUsed := s₂.slotsUsed } : State) = { U.setFrames U.frames with heap := s₂.heap, slotsUsed := s₂.slotsUsed }
      rw [State.setFrames_self ht]
    subst hg
    refine Or.inl ⟨v, ⟨(({ U with heap := s₂.heap, slotsUsed := s₂.slotsUsed } : State).setVm s₂.vm), Ls ++ L, c0 + mc, s0 + ms⟩,
      ⟨X.admits, X.cas, X.clock, X.frames, X.room, X.hears, X.method, X.code, (X.here.setHeapUsed s₂.heap s₂.slotsUsed).setVm hW'.alike, X.tail, State.WarmedH.trans X.warmed hW', X.limits, X.bytes, X.same.trans (hsame.setVm s.vm)⟩,
      ⟨g, mk, s₂, L, rfl, rfl, hqc, rfl, hL, rfl, rfl⟩, ?_⟩
    show Steps p.tables e below _ ((({ U with heap := s₂.heap, slotsUsed := s₂.slotsUsed } : State).setVm s₂.vm).setTop { g with pc := g.pc + len₂, stack := v.toList ++ g.stack })
    rw [← hs₂]
    exact hsteps
  · obtain ⟨e2, q2, q3, q4, q5, q6⟩ := id hsm
    have e3 : s₂ = ({ (U.calling g mk a).setFrames s₂.frames with heap := s₂.heap, slotsUsed := s₂.slotsUsed } : State).setVm s₂.vm := by
      have : s₂ = ({ s₂ with vm := (U.calling g mk a).vm } : State).setVm s₂.vm := rfl
      rw [e2] at this
      exact this
    have hf₂ : s₂.frames = .throwing q :: .java g :: U.frames.tail := hend
    have hW' : U.WarmedH s₂.vm := hW₂
    have hs₂ : s₂ = ((({ U with heap := s₂.heap, slotsUsed := s₂.slotsUsed } : State).setVm s₂.vm).setTop g).pushFrame (.throwing q) := by
      refine e3.trans ?_
      rw [hf₂, State.calling_eq h.top, State.setFrames_setFrames, State.pushFrame, State.frames_setTop _ hr', State.setTop_of_frames _ hr', State.setFrames_setFrames, hr]
      rfl
    have hsame : U.sameButNew ({ U with heap := s₂.heap, slotsUsed := s₂.slotsUsed } : State) L mc ms := by
      refine ⟨?_, q2, q3, q4, q5, q6⟩
      obtain ⟨t, ht, -⟩ := State.frames_cons hr
      show ({ U with heap := s₂.heap, slotsUsed := s₂.slotsUsed } : State) = { U.setFrames U.frames with heap := s₂.heap, slotsUsed := s₂.slotsUsed }
      rw [State.setFrames_self ht]
    subst hg
    refine Or.inr ⟨q, ⟨(({ U with heap := s₂.heap, slotsUsed := s₂.slotsUsed } : State).setVm s₂.vm), Ls ++ L, c0 + mc, s0 + ms⟩,
      ⟨X.admits, X.cas, X.clock, X.frames, X.room, X.hears, X.method, X.code, (X.here.setHeapUsed s₂.heap s₂.slotsUsed).setVm hW'.alike, X.tail, State.WarmedH.trans X.warmed hW', X.limits, X.bytes, X.same.trans (hsame.setVm s.vm)⟩,
      ⟨g, mk, s₂, L, E, ce, rfl, rfl, hx, hce, hcv, hcl, rfl, hL, rfl, rfl⟩, ?_⟩
    show Steps p.tables e below _ (((({ U with heap := s₂.heap, slotsUsed := s₂.slotsUsed } : State).setVm s₂.vm).setTop g).pushFrame (.throwing q))
    rw [← hs₂]
    exact hsteps
end
variable {p : Program} {l : Launch} {e : Env} {R : Room} {s : State} {m : MethodId} {args : Array Value} {below : List Frame} {meth : Method} {c : Code} {T : State} {H : Heap} {locs : List Loc} {cells slots : Nat}
theorem vx_callVX (X : Stand p l e R s m args below meth c T locs cells slots) (hexec : p.tables.exec = Jvm.exec) {own C : String} {index : Nat} {y : MethodName} {bytes : ByteArray} {maxL : Nat} {ret : Option FieldType} {hh : List (Nat × Nat × Nat × Nat)}
    (hown : s.vm.findClass own = some m.cls) (hlink : (Cond.methodLink own index y).before args s = true) (hinst : (Cond.instanceMethod y).before args s = true) (hsel : (Cond.selects C y y).before args s = true)
    (hcode : (Cond.codeWith y bytes maxL ret hh).before args s = true) (hy : y.cls ≠ "java/lang/invoke/MethodHandle" ∧ y.cls ≠ "java/lang/invoke/VarHandle")
    {W9 : Nat} {Pre : Pt → Array Value → Prop} {Post : Pt → Array Value → Option Value → Pt → Prop} {PostX : Pt → Array Value → Addr → Pt → Prop} (hK : vx_Back l R p e below s args y 3 W9 Pre Post PostX)
    {b : Addr} {cellB : Cell} (hcell : T.heap[b]? = some cellB) (hobj : cellB.vm.isStatics = false) (hcls : s.vm.findClass C = some cellB.cls)
    {g : JFrame} (hg : g.method = m) (hsize : g.locals.size = c.maxLocals) {argsL rest : List Value} (hlen : ∀ sig, parseMethodDescriptor y.desc = some sig → argsL.length = sig.parameters.length)
    (hstack : g.stack = argsL.reverse ++ .ref b :: rest) (hW : 2 * g.monitorRoom + (rest.map fun v => v.category).sum ≤ W9) (hdg : decode c.code g.pc = .ok (.invokevirtual index, 3))
    (hpre : ∀ vm₁, s.WarmedH vm₁ → Pre ⟨T.setVm vm₁, locs, cells, slots⟩ (Value.ref b :: argsL).toArray) :
    (∃ (v : Option Value) (vm₁ : Vm) (B : Pt), s.WarmedH vm₁ ∧ Stand p l e R s m args below meth c B.U B.locs B.cells B.slots ∧ Post ⟨T.setVm vm₁, locs, cells, slots⟩ (Value.ref b :: argsL).toArray v B ∧
      ∀ target, Steps p.tables e below (B.U.setTop { g with pc := g.pc + 3, stack := v.toList ++ rest }) target → Steps p.tables e below (T.setTop g) target) ∨
    (∃ (q : Addr) (vm₁ : Vm) (B : Pt), s.WarmedH vm₁ ∧ Stand p l e R s m args below meth c B.U B.locs B.cells B.slots ∧ PostX ⟨T.setVm vm₁, locs, cells, slots⟩ (Value.ref b :: argsL).toArray q B ∧
      Steps p.tables e below (T.setTop g) ((B.U.setTop { g with stack := rest }).pushFrame (.throwing q))) := by
  obtain ⟨mk, methM, hnamed, hmethM, hstM, habM⟩ := Cond.instanceMethod_spec hinst
  obtain ⟨m8, methM', cM, hn8, hmethM', -, -, -, -, -, -, hsigM⟩ := Cond.codeWith_spec hcode
  cases Option.some.inj (hn8.symm.trans hnamed)
  cases hmethM.symm.trans hmethM'
  obtain ⟨c2, r2, m2, q1, q2, q3, q4, kP, hkP, hkPi⟩ := Cond.selects_spec hsel
  cases hcls.symm.trans q1
  cases (State.methodFound?_of_named hnamed hy).symm.trans q2
  cases hnamed.symm.trans q3
  have hselP : selectMethod e.platform s.vm cellB.cls mk = .method mk := by rw [Launch.admits_selectMethod X.admits]; exact q4
  obtain ⟨vm₁, X₁, hstep₁⟩ := X.invokevirtual hexec hown hlink hnamed hmethM hstM hkP hkPi hy (a := b) (cell := cellB) hcell
    (fun z h => by rw [h] at hobj; cases hobj) hselP hmethM habM hkP hkPi (g := g) hg (argsL := argsL) (rest := rest) (hlen _ hsigM) hstack hdg
  rcases hK m meth c ⟨T.setVm vm₁, locs, cells, slots⟩ { g with stack := rest } (.invokevirtual index) mk (Value.ref b :: argsL).toArray X₁ hg hsize hdg hW (X₁.named hnamed) (hpre vm₁ X₁.warmed) with ⟨v, B, X', hpost, hsteps⟩ | ⟨q, B, X', hpost, hsteps⟩
  · exact Or.inl ⟨v, vm₁, B, X₁.warmed, X', hpost, fun target h => hstep₁ _ fun acts => by rw [doInvoke_state]; exact hsteps.trans h⟩
  · exact Or.inr ⟨q, vm₁, B, X₁.warmed, X', hpost, hstep₁ _ fun acts => by rw [doInvoke_state]; exact hsteps⟩
theorem vx_callSX (X : Stand p l e R s m args below meth c T locs cells slots) (hexec : p.tables.exec = Jvm.exec) {own : String} {index : Nat} {y : MethodName} {bytes : ByteArray} {maxL : Nat} {ret : Option FieldType} {hh : List (Nat × Nat × Nat × Nat)}
    (hown : s.vm.findClass own = some m.cls) (hlink : (Cond.methodLink own index y).before args s = true) (hstat : (Cond.static y).before args s = true) (hinit : (Cond.initialized y.cls).before args s = true)
    (hcode : (Cond.codeWith y bytes maxL ret hh).before args s = true) (hy : y.cls ≠ "java/lang/invoke/MethodHandle" ∧ y.cls ≠ "java/lang/invoke/VarHandle")
    {W9 : Nat} {Pre : Pt → Array Value → Prop} {Post : Pt → Array Value → Option Value → Pt → Prop} {PostX : Pt → Array Value → Addr → Pt → Prop} (hK : vx_Back l R p e below s args y 3 W9 Pre Post PostX)
    {g : JFrame} (hg : g.method = m) (hsize : g.locals.size = c.maxLocals) {argsL rest : List Value} (hlen : ∀ sig, parseMethodDescriptor y.desc = some sig → argsL.length = sig.parameters.length)
    (hstack : g.stack = argsL.reverse ++ rest) (hW : 2 * g.monitorRoom + (rest.map fun v => v.category).sum ≤ W9) (hdg : decode c.code g.pc = .ok (.invokestatic index, 3))
    (hpre : ∀ vm₁, s.WarmedH vm₁ → Pre ⟨T.setVm vm₁, locs, cells, slots⟩ argsL.toArray) :
    (∃ (v : Option Value) (vm₁ : Vm) (B : Pt), s.WarmedH vm₁ ∧ Stand p l e R s m args below meth c B.U B.locs B.cells B.slots ∧ Post ⟨T.setVm vm₁, locs, cells, slots⟩ argsL.toArray v B ∧
      ∀ target, Steps p.tables e below (B.U.setTop { g with pc := g.pc + 3, stack := v.toList ++ rest }) target → Steps p.tables e below (T.setTop g) target) ∨
    (∃ (q : Addr) (vm₁ : Vm) (B : Pt), s.WarmedH vm₁ ∧ Stand p l e R s m args below meth c B.U B.locs B.cells B.slots ∧ PostX ⟨T.setVm vm₁, locs, cells, slots⟩ argsL.toArray q B ∧
      Steps p.tables e below (T.setTop g) ((B.U.setTop { g with stack := rest }).pushFrame (.throwing q))) := by
  obtain ⟨mk, methM, cM, hnamed, hmethM, -, -, -, -, -, -, hsigM⟩ := Cond.codeWith_spec hcode
  have hstatic : methM.isStatic = true := Cond.static_spec hnamed hmethM hstat
  obtain ⟨kP, hkP, -⟩ := className_of_methodNamed hnamed
  have hinitP : kP.init = .initialized := Cond.initialized_spec (findClass_of_methodNamed hnamed) hkP hinit
  obtain ⟨vm₁, X₁, hstep₁⟩ := X.invokestatic hexec hown hlink hnamed hmethM hstatic hkP hinitP hy (g := g) hg (argsL := argsL) (rest := rest) (hlen _ hsigM) hstack hdg
  rcases hK m meth c ⟨T.setVm vm₁, locs, cells, slots⟩ { g with stack := rest } (.invokestatic index) mk argsL.toArray X₁ hg hsize hdg hW (X₁.named hnamed) (hpre vm₁ X₁.warmed) with ⟨v, B, X', hpost, hsteps⟩ | ⟨q, B, X', hpost, hsteps⟩
  · exact Or.inl ⟨v, vm₁, B, X₁.warmed, X', hpost, fun target h => hstep₁ _ fun acts => by rw [doInvoke_state]; exact hsteps.trans h⟩
  · exact Or.inr ⟨q, vm₁, B, X₁.warmed, X', hpost, hstep₁ _ fun acts => by rw [doInvoke_state]; exact hsteps⟩
theorem vx_callVW (X : Stand p l e R s m args below meth c T locs cells slots) (hexec : p.tables.exec = Jvm.exec) {own C : String} {index : Nat} {y : MethodName} {bytes : ByteArray} {maxL : Nat} {ret : Option FieldType} {hh : List (Nat × Nat × Nat × Nat)}
    (hown : s.vm.findClass own = some m.cls) (hlink : (Cond.methodLink own index y).before args s = true) (hinst : (Cond.instanceMethod y).before args s = true) (hsel : (Cond.selects C y y).before args s = true)
    (hcode : (Cond.codeWith y bytes maxL ret hh).before args s = true) (hy : y.cls ≠ "java/lang/invoke/MethodHandle" ∧ y.cls ≠ "java/lang/invoke/VarHandle")
    {W9 : Nat} {Pre : Pt → Array Value → Prop} {Post : Pt → Array Value → Option Value → Pt → Prop} (hK : Back l R p e below s args y 3 W9 Pre Post)
    {b : Addr} {cellB : Cell} (hcell : T.heap[b]? = some cellB) (hobj : cellB.vm.isStatics = false) (hcls : s.vm.findClass C = some cellB.cls)
    {g : JFrame} (hg : g.method = m) (hsize : g.locals.size = c.maxLocals) {argsL rest : List Value} (hlen : ∀ sig, parseMethodDescriptor y.desc = some sig → argsL.length = sig.parameters.length)
    (hstack : g.stack = argsL.reverse ++ .ref b :: rest) (hW : 2 * g.monitorRoom + (rest.map fun v => v.category).sum ≤ W9) (hdg : decode c.code g.pc = .ok (.invokevirtual index, 3))
    (hpre : ∀ vm₁, s.WarmedH vm₁ → Pre ⟨T.setVm vm₁, locs, cells, slots⟩ (Value.ref b :: argsL).toArray) :
    ∃ (v : Option Value) (vm₁ : Vm) (B : Pt), s.WarmedH vm₁ ∧ Stand p l e R s m args below meth c B.U B.locs B.cells B.slots ∧ Post ⟨T.setVm vm₁, locs, cells, slots⟩ (Value.ref b :: argsL).toArray v B ∧
      ∀ target, Steps p.tables e below (B.U.setTop { g with pc := g.pc + 3, stack := v.toList ++ rest }) target → Steps p.tables e below (T.setTop g) target := by
  obtain ⟨mk, methM, hnamed, hmethM, hstM, habM⟩ := Cond.instanceMethod_spec hinst
  obtain ⟨m8, methM', cM, hn8, hmethM', -, -, -, -, -, -, hsigM⟩ := Cond.codeWith_spec hcode
  cases Option.some.inj (hn8.symm.trans hnamed)
  cases hmethM.symm.trans hmethM'
  obtain ⟨c2, r2, m2, q1, q2, q3, q4, kP, hkP, hkPi⟩ := Cond.selects_spec hsel
  cases hcls.symm.trans q1
  cases (State.methodFound?_of_named hnamed hy).symm.trans q2
  cases hnamed.symm.trans q3
  have hselP : selectMethod e.platform s.vm cellB.cls mk = .method mk := by rw [Launch.admits_selectMethod X.admits]; exact q4
  obtain ⟨vm₁, X₁, hstep₁⟩ := X.invokevirtual hexec hown hlink hnamed hmethM hstM hkP hkPi hy (a := b) (cell := cellB) hcell
    (fun z h => by rw [h] at hobj; cases hobj) hselP hmethM habM hkP hkPi (g := g) hg (argsL := argsL) (rest := rest) (hlen _ hsigM) hstack hdg
  obtain ⟨v, B, X', hpost, hsteps⟩ := hK m meth c ⟨T.setVm vm₁, locs, cells, slots⟩ { g with stack := rest } (.invokevirtual index) mk (Value.ref b :: argsL).toArray X₁ hg hsize hdg hW (X₁.named hnamed) (hpre vm₁ X₁.warmed)
  exact ⟨v, vm₁, B, X₁.warmed, X', hpost, fun target h => hstep₁ _ fun acts => by rw [doInvoke_state]; exact hsteps.trans h⟩
abbrev vx_CVW (R : Room) (s : State) (args : Array Value) (own C : String) (index : Nat) (y : MethodName) (bytes : ByteArray) (maxL : Nat) (ret : Option FieldType) (hh : List (Nat × Nat × Nat × Nat)) (ws : List Cond) (rm : Room) (mc ms n : Nat) : Prop :=
  (rm.cells = mc ∧ rm.slots = ms ∧ rm.frames + 1 ≤ R.frames ∧ 8 + (maxL + 11) + rm.locals ≤ R.locals ∧ (∀ w ∈ ws, ∀ (a' : Array Value) (U : State), s.WarmedH U.vm → w.before a' U = true) ∧ Cond.codeWith y bytes maxL ret hh ∈ ws) ∧
  (Cond.codeWith y bytes maxL ret hh).before args s = true ∧ (Cond.initialized y.cls).before args s = true ∧ (y.cls ≠ "java/lang/invoke/MethodHandle" ∧ y.cls ≠ "java/lang/invoke/VarHandle") ∧
  (∀ sig, parseMethodDescriptor y.desc = some sig → n = sig.parameters.length) ∧ (Cond.methodLink own index y).before args s = true ∧ (Cond.instanceMethod y).before args s = true ∧ (Cond.selects C y y).before args s = true
theorem vx_cwVW {own C : String} {index maxL mc ms : Nat} {y : MethodName} {bytes : ByteArray} {ret : Option FieldType} {hh : List (Nat × Nat × Nat × Nat)} {Ts ws ws' : List Cond} {rm : Room} (n : Nat) (ht : ∀ w ∈ Ts, w.before args s = true) (hT : GoodIn Ts (wsV own index C y ws)) (hw : ws = Cond.codeWith y bytes maxL ret hh :: ws') (hrc : rm.cells = mc) (hrs : rm.slots = ms)
    (hd : y.cls = C ∧ y.cls ≠ "java/lang/invoke/MethodHandle" ∧ y.cls ≠ "java/lang/invoke/VarHandle" ∧ (parseMethodDescriptor y.desc).map (fun d => d.parameters.length) = some n) (hR : rm.frames + 1 ≤ R.frames ∧ 8 + (maxL + 11) + rm.locals ≤ R.locals) :
    vx_CVW R s args own C index y bytes maxL ret hh ws rm mc ms n := by
  obtain ⟨hC, hd⟩ := hd
  subst hC
  have ok : ∀ w ∈ wsV own index y.cls y ws, w.before args s = true := fun w h => ht w (hT w h).1
  have hG : GoodIn Ts ws := fun w h => hT w (by unfold wsV; exact List.mem_append_right _ h)
  have hc : Cond.codeWith y bytes maxL ret hh ∈ ws := by rw [hw]; exact List.mem_cons_self
  refine ⟨⟨hrc, hrs, hR.1, hR.2, pay_in ht hG, hc⟩, ht _ (hG _ hc).1, ok _ (by simp [wsV]), ⟨hd.1, hd.2.1⟩, fun sig h => ?_, ok _ (by simp [wsV]), ok _ (by simp [wsV]), ok _ (by simp [wsV])⟩
  have h2 := hd.2.2
  rw [h] at h2
  exact (Option.some.inj h2).symm
theorem vx_runVW {y : MethodName} {bytes cc : ByteArray} {maxL nL mc ms n index : Nat} {ret : Option FieldType} {hh : List (Nat × Nat × Nat × Nat)} {ws : List Cond} {rm : Room} {Pc : Array Value → State → Prop} {Qc : Array Value → State → Outcome → State → Prop} {free : Addr → Prop} {Ts : List Cond} {own C : String} {b : Addr} {As rest : List Value} {g : JFrame}
    (S : CallFix p m c cc nL s args Ts own) (hM : Met l y ws rm Pc Qc mc ms free) (cw : vx_CVW R s args own C index y bytes maxL ret hh ws rm mc ms n) (hp : PreV s H C b Pc As)
    (hg : g.method = m) (hn : As.length = n) (hsize : g.locals.size = nL) (hstack : g.stack = As.reverse ++ .ref b :: rest) (hW : 2 * g.monitorRoom + (rest.map fun v => v.category).sum ≤ 8) (hdg : decode cc g.pc = .ok (.invokevirtual index, 3)) (hf : cells + mc ≤ R.cells ∧ slots + ms ≤ R.slots) :
    va_Run p l e R s m args below meth c H locs cells slots mc ms g rest (Qc (Value.ref b :: As).toArray) free := by
  obtain ⟨⟨hrc, hrs, hfr, hlo, hws, hcw⟩, hcode, hini, hy, hlen, hl, hin, hse⟩ := cw
  have hK : Back l R p e below s args y 3 8 (PreOf R mc ms Pc) (PostOf Qc mc ms free) := va_backW (hh := hh) (bytes := bytes) (maxL := maxL) (ret := ret) hM hp.1 hrc hrs hfr hlo hws hcw (fun a' U hW => word_at hW (Or.inl (by first | rfl | simp [Cond.onTables, Cond.keeps, Cond.steady])) hini)
  obtain ⟨hx, hb, hml, ho, -⟩ := S
  obtain ⟨-, ⟨cellB, hcB, hoB, hclB⟩, hPc⟩ := hp
  intro T hT X
  obtain ⟨v, vm₁, ⟨U', l2, c2, s2⟩, hW₁, X', ⟨g', mk, t, L, e1, e2, hq, h1, hL, h2, h3⟩, st⟩ := vx_callVW X hx (C := C) (hh := hh) (bytes := bytes) (maxL := maxL) (ret := ret) ho hl hin hse hcode hy hK (by rw [hT]; exact hcB) hoB hclB hg (hsize.trans hml.symm) (argsL := As) (rest := rest) (fun sig h => hn.trans (hlen sig h)) hstack hW (by rw [hb]; exact hdg)
    (fun vm₁ hW₁ => ⟨hf.1, hf.2, hPc (T.setVm vm₁) hT hW₁⟩)
  dsimp only [Pt.U, Pt.locs, Pt.cells, Pt.slots] at X' e1 e2 h1 h2 h3 st
  subst h1; subst h2; subst h3
  exact ⟨v, (T.setVm vm₁).calling g' mk (Value.ref b :: As).toArray, t, U', L, hT, X', hL, e1, e2, hq, st⟩
section
variable {y : MethodName} {bytes cc : ByteArray} {maxL nL mc ms n index : Nat} {ret : Option FieldType} {ws : List Cond} {rm : Room} {Pc : Array Value → State → Prop} {Qc : Array Value → State → Outcome → State → Prop} {XC : String → State → State → Prop} {free : Addr → Prop} {Ts : List Cond} {own C : String} {b : Addr} {As rest : List Value} {g : JFrame}
theorem vx_runVX {hh : List (Nat × Nat × Nat × Nat)} (S : CallFix p m c cc nL s args Ts own) (hM : vx_Met l y ws rm Pc Qc XC mc ms free) (cw : vx_CVW R s args own C index y bytes maxL ret hh ws rm mc ms n) (hp : PreV s H C b Pc As)
    (hg : g.method = m) (hn : As.length = n) (hsize : g.locals.size = nL) (hstack : g.stack = As.reverse ++ .ref b :: rest) (hW : 2 * g.monitorRoom + (rest.map fun v => v.category).sum ≤ 8) (hdg : decode cc g.pc = .ok (.invokevirtual index, 3)) (hf : cells + mc ≤ R.cells ∧ slots + ms ≤ R.slots) :
    vx_Run p l e R s m args below meth c H locs cells slots mc ms g rest (Qc (Value.ref b :: As).toArray) XC free := by
  obtain ⟨⟨hrc, hrs, hfr, hlo, hws, hcw⟩, hcode, hini, hy, hlen, hl, hin, hse⟩ := cw
  have hK : vx_Back l R p e below s args y 3 8 (PreOf R mc ms Pc) (PostOf Qc mc ms free) (vx_Post XC mc ms free) := vx_backW (hh := hh) (bytes := bytes) (maxL := maxL) (ret := ret) hM hp.1 hrc hrs hfr hlo hws hcw (fun a' U hW => word_at hW (Or.inl (by first | rfl | simp [Cond.onTables, Cond.keeps, Cond.steady])) hini)
  obtain ⟨hx, hb, hml, ho, -⟩ := S
  obtain ⟨-, ⟨cellB, hcB, hoB, hclB⟩, hPc⟩ := hp
  intro T hT X
  rcases vx_callVX X hx (C := C) (hh := hh) (bytes := bytes) (maxL := maxL) (ret := ret) ho hl hin hse hcode hy hK (by rw [hT]; exact hcB) hoB hclB hg (hsize.trans hml.symm) (argsL := As) (rest := rest) (fun sig h => hn.trans (hlen sig h)) hstack hW (by rw [hb]; exact hdg)
    (fun vm₁ hW₁ => ⟨hf.1, hf.2, hPc (T.setVm vm₁) hT hW₁⟩) with ⟨v, vm₁, ⟨U', l2, c2, s2⟩, hW₁, X', ⟨g', mk, t, L, e1, e2, hq, h1, hL, h2, h3⟩, st⟩ | ⟨q, vm₁, ⟨U', l2, c2, s2⟩, hW₁, X', ⟨g', mk, t, L, E, ce, e1, e2, hq, hce, hcv, hcl, h1, hL, h2, h3⟩, st⟩
  · dsimp only [Pt.U, Pt.locs, Pt.cells, Pt.slots] at X' e1 e2 h1 h2 h3 st
    subst h1; subst h2; subst h3
    exact Or.inl ⟨v, (T.setVm vm₁).calling g' mk (Value.ref b :: As).toArray, t, U', L, hT, X', hL, e1, e2, hq, st⟩
  · dsimp only [Pt.U, Pt.locs, Pt.cells, Pt.slots] at X' e1 e2 h1 h2 h3 st hcl
    subst h1; subst h2; subst h3
    exact Or.inr ⟨q, (T.setVm vm₁).calling g' mk (Value.ref b :: As).toArray, t, U', L, E, ce, hT, X', hL, e1, e2, hq, hce, hcv, vx_cls hW₁ hcl, st⟩
theorem vx_runSX {hh : List (Nat × Nat × Nat × Nat)} (S : CallFix p m c cc nL s args Ts own) (hM : vx_Met l y ws rm Pc Qc XC mc ms free) (cw : vx_CSW R s args own index y bytes maxL ret hh ws rm mc ms n) (hp : PreS s H Pc As)
    (hg : g.method = m) (hn : As.length = n) (hsize : g.locals.size = nL) (hstack : g.stack = As.reverse ++ rest) (hW : 2 * g.monitorRoom + (rest.map fun v => v.category).sum ≤ 8) (hdg : decode cc g.pc = .ok (.invokestatic index, 3)) (hf : cells + mc ≤ R.cells ∧ slots + ms ≤ R.slots) :
    vx_Run p l e R s m args below meth c H locs cells slots mc ms g rest (Qc As.toArray) XC free := by
  obtain ⟨⟨hrc, hrs, hfr, hlo, hws, hcw⟩, hcode, hini, hy, hlen, hl, hstt⟩ := cw
  have hK : vx_Back l R p e below s args y 3 8 (PreOf R mc ms Pc) (PostOf Qc mc ms free) (vx_Post XC mc ms free) := vx_backW (hh := hh) (bytes := bytes) (maxL := maxL) (ret := ret) hM hp.1 hrc hrs hfr hlo hws hcw (fun a' U hW => word_at hW (Or.inl (by first | rfl | simp [Cond.onTables, Cond.keeps, Cond.steady])) hini)
  obtain ⟨hx, hb, hml, ho, -⟩ := S
  intro T hT X
  rcases vx_callSX X hx (hh := hh) (bytes := bytes) (maxL := maxL) (ret := ret) ho hl hstt hini hcode hy hK hg (hsize.trans hml.symm) (argsL := As) (rest := rest) (fun sig h => hn.trans (hlen sig h)) hstack hW (by rw [hb]; exact hdg)
    (fun vm₁ hW₁ => ⟨hf.1, hf.2, hp.2 (T.setVm vm₁) hT hW₁⟩) with ⟨v, vm₁, ⟨U', l2, c2, s2⟩, hW₁, X', ⟨g', mk, t, L, e1, e2, hq, h1, hL, h2, h3⟩, st⟩ | ⟨q, vm₁, ⟨U', l2, c2, s2⟩, hW₁, X', ⟨g', mk, t, L, E, ce, e1, e2, hq, hce, hcv, hcl, h1, hL, h2, h3⟩, st⟩
  · dsimp only [Pt.U, Pt.locs, Pt.cells, Pt.slots] at X' e1 e2 h1 h2 h3 st
    subst h1; subst h2; subst h3
    exact Or.inl ⟨v, (T.setVm vm₁).calling g' mk As.toArray, t, U', L, hT, X', hL, e1, e2, hq, st⟩
  · dsimp only [Pt.U, Pt.locs, Pt.cells, Pt.slots] at X' e1 e2 h1 h2 h3 st hcl
    subst h1; subst h2; subst h3
    exact Or.inr ⟨q, (T.setVm vm₁).calling g' mk As.toArray, t, U', L, E, ce, hT, X', hL, e1, e2, hq, hce, hcv, vx_cls hW₁ hcl, st⟩
end
end VXH
theorem vx_ofWH {l : Launch} {y : MethodName} {ws ws' : List Cond} {rm : Room} {Pc : Array Value → State → Prop} {Qc : Array Value → State → Outcome → State → Prop} {XC : String → State → State → Prop} {mc ms : Nat} {free : Addr → Prop} {cc : ByteArray} {maxL : Nat} {ret : Option FieldType} {hh : List (Nat × Nat × Nat × Nat)}
    (hy : plainName y.cls = true) (hw : ws = Cond.codeWith y cc maxL ret hh :: ws')
    (body : ∀ p e s m args below meth c s₁, BodyLoose p l y (headSpec ws rm) cc maxL ret e s m args below meth c s₁ → c.maxLocals = maxL → Pc args s →
      W p l e (headSpec ws rm).room s m args below meth c s.heap [] 0 0 (vx_MQ below Qc XC args s mc ms free) (entryFrame m args maxL)) : vx_Met l y ws rm Pc Qc XC mc ms free := by
  refine MetFree.of_bodyS (code := cc) (maxLocals := maxL) (ret := ret) hy ?_ ?_
  · intro args s m h hn
    obtain ⟨m9, meth, c, hn9, h1, h2, h3, h4, -, h5, h6, -⟩ := Cond.codeWith_spec (atoms_spec (ws := ws) h _ (by rw [hw]; exact List.mem_cons_self))
    cases hn.symm.trans hn9
    exact ⟨meth, c, h1, h2, h3, h4, h5, h6⟩
  · intro p e s m args below meth c s₁ B hml hP _
    have hh0 : s₁.heap = s.heap := by rw [B.state]; rfl
    obtain ⟨t, a1, o, b1, b2, b3⟩ := body p e s m args below meth c s₁ B hml hP s₁ hh0 (Stand.of_body B)
    exact ⟨t, o, a1, b1, b2, b3⟩
/-! ===== END ===== -/
end
section
abbrev R_X : String := "LitreFractions"
abbrev R_T : String := "LitreFractions$Table"
abbrev R_M : String := "LitreFractionsModel"
abbrev R_L : String := "LitreFractionsLaw"
abbrev R_JM : String := "java/lang/Math"
abbrev R_JL : String := "java/lang/Long"
def F_T : u_T := fun k => match k with
  | 0 => ("LitreFractions$Table", "xs", "[J", true)
  | 1 => ("LitreFractions$Table", "ys", "[J", true)
  | 2 => ("LitreFractions$Table", "below", "J", false)
  | _ => ("LitreFractions$Table", "count", "I", false)
def tt_T : Nat → FieldType := fun k => match k with
  | 0 => .array .long
  | 1 => .array .long
  | 2 => .long
  | _ => .int
theorem nn_T : ∀ a, a < 4 → ∀ b, b < 4 → a ≠ b → (F_T a).2.1 ≠ (F_T b).2.1 := by decide +kernel
theorem tt_T_ok : ∀ k, k < 4 → parseFieldDescriptor (F_T k).2.2.1 = some (tt_T k) := by decide +kernel
def F_X : u_T := fun k => match k with
  | 0 => ("LitreFractions", "aboves", "[J", true)
  | 1 => ("LitreFractions", "belows", "[J", true)
  | 2 => ("LitreFractions", "units", "[I", true)
  | 3 => ("LitreFractions", "amountCount", "I", false)
  | 4 => ("LitreFractions", "weights", "[J", true)
  | 5 => ("LitreFractions", "weightCount", "I", false)
  | _ => ("LitreFractions", "tables", "[LLitreFractions$Table;", true)
def tt_X : Nat → FieldType := fun k => match k with
  | 0 => .array .long
  | 1 => .array .long
  | 2 => .array .int
  | 3 => .int
  | 4 => .array .long
  | 5 => .int
  | _ => .array (.object "LitreFractions$Table")
theorem nn_X : ∀ a, a < 7 → ∀ b, b < 7 → a ≠ b → (F_X a).2.1 ≠ (F_X b).2.1 := by decide +kernel
theorem tt_X_ok : ∀ k, k < 7 → parseFieldDescriptor (F_X k).2.2.1 = some (tt_X k) := by decide +kernel
def F_M : u_T := fun k => match k with
  | 0 => ("LitreFractionsModel", "code", "I", false)
  | 1 => ("LitreFractionsModel", "amounts", "I", false)
  | 2 => ("LitreFractionsModel", "up", "[J", true)
  | 3 => ("LitreFractionsModel", "down", "[J", true)
  | 4 => ("LitreFractionsModel", "units", "[I", true)
  | 5 => ("LitreFractionsModel", "rows", "[I", true)
  | 6 => ("LitreFractionsModel", "xs", "[J", true)
  | 7 => ("LitreFractionsModel", "ys", "[J", true)
  | 8 => ("LitreFractionsModel", "belows", "[J", true)
  | 9 => ("LitreFractionsModel", "weights", "I", false)
  | _ => ("LitreFractionsModel", "weight", "[J", true)
def tt_M : Nat → FieldType := fun k => match k with
  | 0 => .int
  | 1 => .int
  | 2 => .array .long
  | 3 => .array .long
  | 4 => .array .int
  | 5 => .array .int
  | 6 => .array .long
  | 7 => .array .long
  | 8 => .array .long
  | 9 => .int
  | _ => .array .long
theorem nn_M : ∀ a, a < 11 → ∀ b, b < 11 → a ≠ b → (F_M a).2.1 ≠ (F_M b).2.1 := by decide +kernel
theorem tt_M_ok : ∀ k, k < 11 → parseFieldDescriptor (F_M k).2.2.1 = some (tt_M k) := by decide +kernel
abbrev classes : List vw_C := [(R_T, F_T, 4), (R_X, F_X, 7), (R_M, F_M, 11)]
/-- the words of the tables that stay as they are, whatever is warmed -/
def WG : List Cond := lw_tbl.filter goodWord
theorem WG_ok : GoodIn lw_tbl WG := fun w h => ⟨(List.mem_filter.mp h).1, good_of_word (List.mem_filter.mp h).2⟩
theorem WG_at {w : Cond} (i : Nat) (h : lw_tbl[i]? = some w) (hg : goodWord w = true) : w ∈ WG := List.mem_filter.mpr ⟨List.mem_of_getElem? h, hg⟩
theorem wg_0 : (Cond.selects "LitreFractions" ({ cls := "LitreFractions", name := "isAmount", desc := "(I)Z" } : Jvm.MethodName) ({ cls := "LitreFractions", name := "isAmount", desc := "(I)Z" } : Jvm.MethodName)) ∈ WG := WG_at 0 rfl rfl
theorem wg_1 : (Cond.selects "LitreFractions" ({ cls := "LitreFractions", name := "keep", desc := "(JJI)I" } : Jvm.MethodName) ({ cls := "LitreFractions", name := "keep", desc := "(JJI)I" } : Jvm.MethodName)) ∈ WG := WG_at 1 rfl rfl
theorem wg_2 : (Cond.selects "LitreFractions" ({ cls := "LitreFractions", name := "tableAt", desc := "(I)LLitreFractions$Table;" } : Jvm.MethodName) ({ cls := "LitreFractions", name := "tableAt", desc := "(I)LLitreFractions$Table;" } : Jvm.MethodName)) ∈ WG := WG_at 2 rfl rfl
theorem wg_3 : (Cond.selects "LitreFractions$Table" ({ cls := "LitreFractions$Table", name := "takes", desc := "(JJJ)Z" } : Jvm.MethodName) ({ cls := "LitreFractions$Table", name := "takes", desc := "(JJJ)Z" } : Jvm.MethodName)) ∈ WG := WG_at 3 rfl rfl
theorem wg_4 : (Cond.selects "LitreFractions$Table" ({ cls := "LitreFractions$Table", name := "append", desc := "(JJJ)V" } : Jvm.MethodName) ({ cls := "LitreFractions$Table", name := "append", desc := "(JJJ)V" } : Jvm.MethodName)) ∈ WG := WG_at 4 rfl rfl
theorem wg_5 : (Cond.selects "LitreFractions$Table" ({ cls := "LitreFractions$Table", name := "firstNotBefore", desc := "(JJ)I" } : Jvm.MethodName) ({ cls := "LitreFractions$Table", name := "firstNotBefore", desc := "(JJ)I" } : Jvm.MethodName)) ∈ WG := WG_at 5 rfl rfl
theorem wg_6 : (Cond.selects "LitreFractions" ({ cls := "LitreFractions", name := "keepBetween", desc := "(LLitreFractions$Table;II)I" } : Jvm.MethodName) ({ cls := "LitreFractions", name := "keepBetween", desc := "(LLitreFractions$Table;II)I" } : Jvm.MethodName)) ∈ WG := WG_at 6 rfl rfl
theorem wg_7 : (Cond.selects "LitreFractions" ({ cls := "LitreFractions", name := "sumOfWeights", desc := "()J" } : Jvm.MethodName) ({ cls := "LitreFractions", name := "sumOfWeights", desc := "()J" } : Jvm.MethodName)) ∈ WG := WG_at 7 rfl rfl
theorem wg_8 : (Cond.selects "LitreFractions" ({ cls := "LitreFractions", name := "thousandthsOf", desc := "(IJJ)J" } : Jvm.MethodName) ({ cls := "LitreFractions", name := "thousandthsOf", desc := "(IJJ)J" } : Jvm.MethodName)) ∈ WG := WG_at 8 rfl rfl
theorem wg_9 : (Cond.selects "java/lang/Throwable" ({ cls := "java/lang/Throwable", name := "fillInStackTrace", desc := "(I)Ljava/lang/Throwable;" } : Jvm.MethodName) ({ cls := "java/lang/Throwable", name := "fillInStackTrace", desc := "(I)Ljava/lang/Throwable;" } : Jvm.MethodName)) ∈ WG := WG_at 9 rfl rfl
theorem wg_10 : (Cond.selects "LitreFractionsModel" ({ cls := "LitreFractionsModel", name := "make", desc := "(JJI)I" } : Jvm.MethodName) ({ cls := "LitreFractionsModel", name := "make", desc := "(JJI)I" } : Jvm.MethodName)) ∈ WG := WG_at 10 rfl rfl
theorem wg_11 : (Cond.selects "LitreFractionsModel" ({ cls := "LitreFractionsModel", name := "isAmount", desc := "(I)Z" } : Jvm.MethodName) ({ cls := "LitreFractionsModel", name := "isAmount", desc := "(I)Z" } : Jvm.MethodName)) ∈ WG := WG_at 11 rfl rfl
theorem wg_12 : (Cond.initialized "LitreFractionsLaw") ∈ WG := WG_at 12 rfl rfl
theorem wg_13 : (Cond.initialized "LitreFractions") ∈ WG := WG_at 13 rfl rfl
theorem wg_14 : (Cond.initialized "LitreFractions$Table") ∈ WG := WG_at 14 rfl rfl
theorem wg_15 : (Cond.initialized "LitreFractionsModel") ∈ WG := WG_at 15 rfl rfl
theorem wg_16 : (Cond.initialized "java/lang/Throwable") ∈ WG := WG_at 16 rfl rfl
theorem wg_17 : (Cond.initialized "java/lang/Exception") ∈ WG := WG_at 17 rfl rfl
theorem wg_18 : (Cond.initialized "java/lang/RuntimeException") ∈ WG := WG_at 18 rfl rfl
theorem wg_19 : (Cond.initialized "java/lang/ArithmeticException") ∈ WG := WG_at 19 rfl rfl
theorem wg_20 : (Cond.initialized "java/lang/Math") ∈ WG := WG_at 20 rfl rfl
theorem wg_21 : (Cond.initialized "java/lang/Long") ∈ WG := WG_at 21 rfl rfl
theorem wg_22 : (Cond.initialized "java/lang/IndexOutOfBoundsException") ∈ WG := WG_at 22 rfl rfl
theorem wg_23 : (Cond.classLink "LitreFractionsLaw" (8 : Nat) "LitreFractions") ∈ WG := WG_at 23 rfl rfl
theorem wg_24 : (Cond.instantiable "LitreFractions" (7 : Nat)) ∈ WG := WG_at 24 rfl rfl
theorem wg_25 : (Cond.methodLink "LitreFractionsLaw" (25 : Nat) ({ cls := "LitreFractions", name := "<init>", desc := "()V" } : Jvm.MethodName)) ∈ WG := WG_at 25 rfl rfl
theorem wg_26 : (Cond.instanceMethod ({ cls := "LitreFractions", name := "<init>", desc := "()V" } : Jvm.MethodName)) ∈ WG := WG_at 26 rfl rfl
theorem wg_27 : (Cond.code ({ cls := "LitreFractions", name := "<init>", desc := "()V" } : Jvm.MethodName) prog_1_method_1_code (2 : Nat) (Option.none : Option Jvm.ClassFile.FieldType)) ∈ WG := WG_at 27 rfl rfl
theorem wg_28 : (Cond.methodLink "LitreFractions" (1 : Nat) ({ cls := "java/lang/Object", name := "<init>", desc := "()V" } : Jvm.MethodName)) ∈ WG := WG_at 28 rfl rfl
theorem wg_29 : (Cond.instanceMethod ({ cls := "java/lang/Object", name := "<init>", desc := "()V" } : Jvm.MethodName)) ∈ WG := WG_at 29 rfl rfl
theorem wg_30 : (Cond.code ({ cls := "java/lang/Object", name := "<init>", desc := "()V" } : Jvm.MethodName) object_method_1_code (1 : Nat) (Option.none : Option Jvm.ClassFile.FieldType)) ∈ WG := WG_at 30 rfl rfl
theorem wg_31 : (Cond.classLink "LitreFractions" (23 : Nat) "LitreFractions$Table") ∈ WG := WG_at 31 rfl rfl
theorem wg_32 : (Cond.instantiable "LitreFractions$Table" (4 : Nat)) ∈ WG := WG_at 33 rfl rfl
theorem wg_33 : (Cond.instanceMethod ({ cls := "LitreFractions$Table", name := "<init>", desc := "()V" } : Jvm.MethodName)) ∈ WG := WG_at 35 rfl rfl
theorem wg_34 : (Cond.code ({ cls := "LitreFractions$Table", name := "<init>", desc := "()V" } : Jvm.MethodName) prog_2_method_1_code (1 : Nat) (Option.none : Option Jvm.ClassFile.FieldType)) ∈ WG := WG_at 36 rfl rfl
theorem wg_35 : (Cond.methodLink "LitreFractions$Table" (3 : Nat) ({ cls := "java/lang/Object", name := "<init>", desc := "()V" } : Jvm.MethodName)) ∈ WG := WG_at 37 rfl rfl
theorem wg_36 : (Cond.fieldLink "LitreFractions$Table" (9 : Nat) "LitreFractions$Table" "xs" "[J") ∈ WG := WG_at 38 rfl rfl
theorem wg_37 : (Cond.fieldLink "LitreFractions$Table" (15 : Nat) "LitreFractions$Table" "ys" "[J") ∈ WG := WG_at 40 rfl rfl
theorem wg_38 : (Cond.fieldLink "LitreFractions$Table" (28 : Nat) "LitreFractions$Table" "below" "J") ∈ WG := WG_at 42 rfl rfl
theorem wg_39 : (Cond.fieldLink "LitreFractions$Table" (18 : Nat) "LitreFractions$Table" "count" "I") ∈ WG := WG_at 44 rfl rfl
theorem wg_40 : (Cond.laysFinal "LitreFractions$Table" "LitreFractions$Table" "xs" "[J") ∈ WG := WG_at 46 rfl rfl
theorem wg_41 : (Cond.laysFinal "LitreFractions$Table" "LitreFractions$Table" "ys" "[J") ∈ WG := WG_at 48 rfl rfl
theorem wg_42 : (Cond.lays "LitreFractions$Table" "LitreFractions$Table" "below" "J") ∈ WG := WG_at 50 rfl rfl
theorem wg_43 : (Cond.lays "LitreFractions$Table" "LitreFractions$Table" "count" "I") ∈ WG := WG_at 52 rfl rfl
theorem wg_44 : (Cond.arrayClass Jvm.ClassFile.FieldType.long) ∈ WG := WG_at 55 rfl rfl
theorem wg_45 : (Cond.arrayClass Jvm.ClassFile.FieldType.int) ∈ WG := WG_at 56 rfl rfl
theorem wg_46 : (Cond.fieldLink "LitreFractions" (9 : Nat) "LitreFractions" "aboves" "[J") ∈ WG := WG_at 57 rfl rfl
theorem wg_47 : (Cond.fieldLink "LitreFractions" (13 : Nat) "LitreFractions" "belows" "[J") ∈ WG := WG_at 58 rfl rfl
theorem wg_48 : (Cond.fieldLink "LitreFractions" (16 : Nat) "LitreFractions" "units" "[I") ∈ WG := WG_at 59 rfl rfl
theorem wg_49 : (Cond.fieldLink "LitreFractions" (137 : Nat) "LitreFractions" "amountCount" "I") ∈ WG := WG_at 60 rfl rfl
theorem wg_50 : (Cond.fieldLink "LitreFractions" (20 : Nat) "LitreFractions" "weights" "[J") ∈ WG := WG_at 61 rfl rfl
theorem wg_51 : (Cond.fieldLink "LitreFractions" (104 : Nat) "LitreFractions" "weightCount" "I") ∈ WG := WG_at 62 rfl rfl
theorem wg_52 : (Cond.fieldLink "LitreFractions" (25 : Nat) "LitreFractions" "tables" "[LLitreFractions$Table;") ∈ WG := WG_at 63 rfl rfl
theorem wg_53 : (Cond.laysFinal "LitreFractions" "LitreFractions" "aboves" "[J") ∈ WG := WG_at 64 rfl rfl
theorem wg_54 : (Cond.laysFinal "LitreFractions" "LitreFractions" "belows" "[J") ∈ WG := WG_at 66 rfl rfl
theorem wg_55 : (Cond.laysFinal "LitreFractions" "LitreFractions" "units" "[I") ∈ WG := WG_at 68 rfl rfl
theorem wg_56 : (Cond.lays "LitreFractions" "LitreFractions" "amountCount" "I") ∈ WG := WG_at 70 rfl rfl
theorem wg_57 : (Cond.laysFinal "LitreFractions" "LitreFractions" "weights" "[J") ∈ WG := WG_at 72 rfl rfl
theorem wg_58 : (Cond.lays "LitreFractions" "LitreFractions" "weightCount" "I") ∈ WG := WG_at 74 rfl rfl
theorem wg_59 : (Cond.laysFinal "LitreFractions" "LitreFractions" "tables" "[LLitreFractions$Table;") ∈ WG := WG_at 76 rfl rfl
theorem wg_60 : (Cond.methodLink "LitreFractionsLaw" (41 : Nat) ({ cls := "LitreFractions", name := "add", desc := "(II)I" } : Jvm.MethodName)) ∈ WG := WG_at 79 rfl rfl
theorem wg_61 : (Cond.instanceMethod ({ cls := "LitreFractions", name := "add", desc := "(II)I" } : Jvm.MethodName)) ∈ WG := WG_at 80 rfl rfl
theorem wg_62 : (Cond.selects "LitreFractions" ({ cls := "LitreFractions", name := "add", desc := "(II)I" } : Jvm.MethodName) ({ cls := "LitreFractions", name := "add", desc := "(II)I" } : Jvm.MethodName)) ∈ WG := WG_at 81 rfl rfl
theorem wg_63 : (Cond.code ({ cls := "LitreFractions", name := "add", desc := "(II)I" } : Jvm.MethodName) prog_1_method_3_code (3 : Nat) (Option.some Jvm.ClassFile.FieldType.int)) ∈ WG := WG_at 82 rfl rfl
theorem wg_64 : (Cond.methodLink "LitreFractions" (45 : Nat) ({ cls := "LitreFractions", name := "isAmount", desc := "(I)Z" } : Jvm.MethodName)) ∈ WG := WG_at 83 rfl rfl
theorem wg_65 : (Cond.instanceMethod ({ cls := "LitreFractions", name := "isAmount", desc := "(I)Z" } : Jvm.MethodName)) ∈ WG := WG_at 85 rfl rfl
theorem wg_66 : (Cond.code ({ cls := "LitreFractions", name := "isAmount", desc := "(I)Z" } : Jvm.MethodName) prog_1_method_15_code (2 : Nat) (Option.some Jvm.ClassFile.FieldType.boolean)) ∈ WG := WG_at 86 rfl rfl
theorem wg_67 : (Cond.methodLink "LitreFractions" (41 : Nat) ({ cls := "LitreFractions", name := "keep", desc := "(JJI)I" } : Jvm.MethodName)) ∈ WG := WG_at 87 rfl rfl
theorem wg_68 : (Cond.instanceMethod ({ cls := "LitreFractions", name := "keep", desc := "(JJI)I" } : Jvm.MethodName)) ∈ WG := WG_at 89 rfl rfl
theorem wg_69 : (Cond.code ({ cls := "LitreFractions", name := "keep", desc := "(JJI)I" } : Jvm.MethodName) prog_1_method_18_code (14 : Nat) (Option.some Jvm.ClassFile.FieldType.int)) ∈ WG := WG_at 90 rfl rfl
theorem wg_70 : (Cond.methodLink "LitreFractions" (144 : Nat) ({ cls := "LitreFractions", name := "commonDivisor", desc := "(JJ)J" } : Jvm.MethodName)) ∈ WG := WG_at 91 rfl rfl
theorem wg_71 : (Cond.static ({ cls := "LitreFractions", name := "commonDivisor", desc := "(JJ)J" } : Jvm.MethodName)) ∈ WG := WG_at 92 rfl rfl
theorem wg_72 : (Cond.code ({ cls := "LitreFractions", name := "commonDivisor", desc := "(JJ)J" } : Jvm.MethodName) prog_1_method_19_code (11 : Nat) (Option.some Jvm.ClassFile.FieldType.long)) ∈ WG := WG_at 93 rfl rfl
theorem wg_73 : (Cond.methodLink "LitreFractions" (117 : Nat) ({ cls := "java/lang/Math", name := "abs", desc := "(J)J" } : Jvm.MethodName)) ∈ WG := WG_at 94 rfl rfl
theorem wg_74 : (Cond.static ({ cls := "java/lang/Math", name := "abs", desc := "(J)J" } : Jvm.MethodName)) ∈ WG := WG_at 95 rfl rfl
theorem wg_75 : (Cond.code ({ cls := "java/lang/Math", name := "abs", desc := "(J)J" } : Jvm.MethodName) prog_9_method_61_code (2 : Nat) (Option.some Jvm.ClassFile.FieldType.long)) ∈ WG := WG_at 96 rfl rfl
theorem wg_76 : (Cond.constantLong "LitreFractions" (147 : Nat) (-2147483647 : Int64)) ∈ WG := WG_at 97 rfl rfl
theorem wg_77 : (Cond.constantLong "LitreFractions" (149 : Nat) (2147483647 : Int64)) ∈ WG := WG_at 98 rfl rfl
theorem wg_78 : (Cond.methodLink "LitreFractionsLaw" (45 : Nat) ({ cls := "LitreFractions", name := "times", desc := "(II)I" } : Jvm.MethodName)) ∈ WG := WG_at 99 rfl rfl
theorem wg_79 : (Cond.instanceMethod ({ cls := "LitreFractions", name := "times", desc := "(II)I" } : Jvm.MethodName)) ∈ WG := WG_at 100 rfl rfl
theorem wg_80 : (Cond.selects "LitreFractions" ({ cls := "LitreFractions", name := "times", desc := "(II)I" } : Jvm.MethodName) ({ cls := "LitreFractions", name := "times", desc := "(II)I" } : Jvm.MethodName)) ∈ WG := WG_at 101 rfl rfl
theorem wg_81 : (Cond.code ({ cls := "LitreFractions", name := "times", desc := "(II)I" } : Jvm.MethodName) prog_1_method_4_code (4 : Nat) (Option.some Jvm.ClassFile.FieldType.int)) ∈ WG := WG_at 102 rfl rfl
theorem wg_82 : (Cond.methodLink "LitreFractions" (49 : Nat) ({ cls := "LitreFractions", name := "unitOfProduct", desc := "(II)I" } : Jvm.MethodName)) ∈ WG := WG_at 103 rfl rfl
theorem wg_83 : (Cond.static ({ cls := "LitreFractions", name := "unitOfProduct", desc := "(II)I" } : Jvm.MethodName)) ∈ WG := WG_at 104 rfl rfl
theorem wg_84 : (Cond.code ({ cls := "LitreFractions", name := "unitOfProduct", desc := "(II)I" } : Jvm.MethodName) prog_1_method_22_code (2 : Nat) (Option.some Jvm.ClassFile.FieldType.int)) ∈ WG := WG_at 105 rfl rfl
theorem wg_85 : (Cond.methodLink "LitreFractions" (157 : Nat) ({ cls := "LitreFractions", name := "isShareOf", desc := "(II)Z" } : Jvm.MethodName)) ∈ WG := WG_at 106 rfl rfl
theorem wg_86 : (Cond.static ({ cls := "LitreFractions", name := "isShareOf", desc := "(II)Z" } : Jvm.MethodName)) ∈ WG := WG_at 107 rfl rfl
theorem wg_87 : (Cond.code ({ cls := "LitreFractions", name := "isShareOf", desc := "(II)Z" } : Jvm.MethodName) prog_1_method_24_code (2 : Nat) (Option.some Jvm.ClassFile.FieldType.boolean)) ∈ WG := WG_at 108 rfl rfl
theorem wg_88 : (Cond.methodLink "LitreFractionsLaw" (53 : Nat) ({ cls := "LitreFractions", name := "round", desc := "(IIJ)I" } : Jvm.MethodName)) ∈ WG := WG_at 109 rfl rfl
theorem wg_89 : (Cond.instanceMethod ({ cls := "LitreFractions", name := "round", desc := "(IIJ)I" } : Jvm.MethodName)) ∈ WG := WG_at 110 rfl rfl
theorem wg_90 : (Cond.selects "LitreFractions" ({ cls := "LitreFractions", name := "round", desc := "(IIJ)I" } : Jvm.MethodName) ({ cls := "LitreFractions", name := "round", desc := "(IIJ)I" } : Jvm.MethodName)) ∈ WG := WG_at 111 rfl rfl
theorem wg_91 : (Cond.code ({ cls := "LitreFractions", name := "round", desc := "(IIJ)I" } : Jvm.MethodName) prog_1_method_6_code (13 : Nat) (Option.some Jvm.ClassFile.FieldType.int)) ∈ WG := WG_at 112 rfl rfl
theorem wg_92 : (Cond.constantLong "LitreFractions" (58 : Nat) (1000000000 : Int64)) ∈ WG := WG_at 113 rfl rfl
theorem wg_93 : (Cond.methodLink "LitreFractions" (60 : Nat) ({ cls := "LitreFractions", name := "quotientDown", desc := "(JJ)J" } : Jvm.MethodName)) ∈ WG := WG_at 114 rfl rfl
theorem wg_94 : (Cond.static ({ cls := "LitreFractions", name := "quotientDown", desc := "(JJ)J" } : Jvm.MethodName)) ∈ WG := WG_at 115 rfl rfl
theorem wg_95 : (Cond.code ({ cls := "LitreFractions", name := "quotientDown", desc := "(JJ)J" } : Jvm.MethodName) prog_1_method_20_code (4 : Nat) (Option.some Jvm.ClassFile.FieldType.long)) ∈ WG := WG_at 116 rfl rfl
theorem wg_96 : (Cond.methodLink "LitreFractions" (151 : Nat) ({ cls := "java/lang/Math", name := "floorDiv", desc := "(JJ)J" } : Jvm.MethodName)) ∈ WG := WG_at 117 rfl rfl
theorem wg_97 : (Cond.static ({ cls := "java/lang/Math", name := "floorDiv", desc := "(JJ)J" } : Jvm.MethodName)) ∈ WG := WG_at 118 rfl rfl
theorem wg_98 : (Cond.code ({ cls := "java/lang/Math", name := "floorDiv", desc := "(JJ)J" } : Jvm.MethodName) prog_9_method_49_code (6 : Nat) (Option.some Jvm.ClassFile.FieldType.long)) ∈ WG := WG_at 119 rfl rfl
theorem wg_99 : (Cond.methodLink "LitreFractions" (64 : Nat) ({ cls := "LitreFractions", name := "restOf", desc := "(JJ)J" } : Jvm.MethodName)) ∈ WG := WG_at 120 rfl rfl
theorem wg_100 : (Cond.static ({ cls := "LitreFractions", name := "restOf", desc := "(JJ)J" } : Jvm.MethodName)) ∈ WG := WG_at 121 rfl rfl
theorem wg_101 : (Cond.code ({ cls := "LitreFractions", name := "restOf", desc := "(JJ)J" } : Jvm.MethodName) prog_1_method_21_code (4 : Nat) (Option.some Jvm.ClassFile.FieldType.long)) ∈ WG := WG_at 122 rfl rfl
theorem wg_102 : (Cond.methodLink "LitreFractions" (154 : Nat) ({ cls := "java/lang/Math", name := "floorMod", desc := "(JJ)J" } : Jvm.MethodName)) ∈ WG := WG_at 123 rfl rfl
theorem wg_103 : (Cond.static ({ cls := "java/lang/Math", name := "floorMod", desc := "(JJ)J" } : Jvm.MethodName)) ∈ WG := WG_at 124 rfl rfl
theorem wg_104 : (Cond.code ({ cls := "java/lang/Math", name := "floorMod", desc := "(JJ)J" } : Jvm.MethodName) prog_9_method_52_code (6 : Nat) (Option.some Jvm.ClassFile.FieldType.long)) ∈ WG := WG_at 125 rfl rfl
theorem wg_105 : (Cond.methodLink "LitreFractions" (67 : Nat) ({ cls := "LitreFractions", name := "goesUp", desc := "(IJJJ)Z" } : Jvm.MethodName)) ∈ WG := WG_at 126 rfl rfl
theorem wg_106 : (Cond.static ({ cls := "LitreFractions", name := "goesUp", desc := "(IJJJ)Z" } : Jvm.MethodName)) ∈ WG := WG_at 127 rfl rfl
theorem wg_107 : (Cond.code ({ cls := "LitreFractions", name := "goesUp", desc := "(IJJJ)Z" } : Jvm.MethodName) prog_1_method_25_code (8 : Nat) (Option.some Jvm.ClassFile.FieldType.boolean)) ∈ WG := WG_at 128 rfl rfl
theorem wg_108 : (Cond.constantLong "LitreFractions" (161 : Nat) (2 : Int64)) ∈ WG := WG_at 129 rfl rfl
theorem wg_109 : (Cond.methodLink "LitreFractions" (163 : Nat) ({ cls := "java/lang/Long", name := "compare", desc := "(JJ)I" } : Jvm.MethodName)) ∈ WG := WG_at 130 rfl rfl
theorem wg_110 : (Cond.static ({ cls := "java/lang/Long", name := "compare", desc := "(JJ)I" } : Jvm.MethodName)) ∈ WG := WG_at 131 rfl rfl
theorem wg_111 : (Cond.code ({ cls := "java/lang/Long", name := "compare", desc := "(JJ)I" } : Jvm.MethodName) prog_8_method_42_code (4 : Nat) (Option.some Jvm.ClassFile.FieldType.int)) ∈ WG := WG_at 132 rfl rfl
theorem wg_112 : (Cond.methodLink "LitreFractionsLaw" (58 : Nat) ({ cls := "LitreFractions", name := "order", desc := "(II)I" } : Jvm.MethodName)) ∈ WG := WG_at 133 rfl rfl
theorem wg_113 : (Cond.instanceMethod ({ cls := "LitreFractions", name := "order", desc := "(II)I" } : Jvm.MethodName)) ∈ WG := WG_at 134 rfl rfl
theorem wg_114 : (Cond.selects "LitreFractions" ({ cls := "LitreFractions", name := "order", desc := "(II)I" } : Jvm.MethodName) ({ cls := "LitreFractions", name := "order", desc := "(II)I" } : Jvm.MethodName)) ∈ WG := WG_at 135 rfl rfl
theorem wg_115 : (Cond.code ({ cls := "LitreFractions", name := "order", desc := "(II)I" } : Jvm.MethodName) prog_1_method_7_code (7 : Nat) (Option.some Jvm.ClassFile.FieldType.int)) ∈ WG := WG_at 136 rfl rfl
theorem wg_116 : (Cond.methodLink "LitreFractionsLaw" (62 : Nat) ({ cls := "LitreFractions", name := "row", desc := "(IJJJ)Z" } : Jvm.MethodName)) ∈ WG := WG_at 137 rfl rfl
theorem wg_117 : (Cond.instanceMethod ({ cls := "LitreFractions", name := "row", desc := "(IJJJ)Z" } : Jvm.MethodName)) ∈ WG := WG_at 138 rfl rfl
theorem wg_118 : (Cond.selects "LitreFractions" ({ cls := "LitreFractions", name := "row", desc := "(IJJJ)Z" } : Jvm.MethodName) ({ cls := "LitreFractions", name := "row", desc := "(IJJJ)Z" } : Jvm.MethodName)) ∈ WG := WG_at 139 rfl rfl
theorem wg_119 : (Cond.code ({ cls := "LitreFractions", name := "row", desc := "(IJJJ)Z" } : Jvm.MethodName) prog_1_method_8_code (9 : Nat) (Option.some Jvm.ClassFile.FieldType.boolean)) ∈ WG := WG_at 140 rfl rfl
theorem wg_120 : (Cond.methodLink "LitreFractions" (71 : Nat) ({ cls := "LitreFractions", name := "tableAt", desc := "(I)LLitreFractions$Table;" } : Jvm.MethodName)) ∈ WG := WG_at 141 rfl rfl
theorem wg_121 : (Cond.instanceMethod ({ cls := "LitreFractions", name := "tableAt", desc := "(I)LLitreFractions$Table;" } : Jvm.MethodName)) ∈ WG := WG_at 143 rfl rfl
theorem wg_122 : (Cond.code ({ cls := "LitreFractions", name := "tableAt", desc := "(I)LLitreFractions$Table;" } : Jvm.MethodName) prog_1_method_16_code (2 : Nat) (Option.some (Jvm.ClassFile.FieldType.object "LitreFractions$Table"))) ∈ WG := WG_at 144 rfl rfl
theorem wg_123 : (Cond.instanceMethod ({ cls := "LitreFractions$Table", name := "takes", desc := "(JJJ)Z" } : Jvm.MethodName)) ∈ WG := WG_at 147 rfl rfl
theorem wg_124 : (Cond.code ({ cls := "LitreFractions$Table", name := "takes", desc := "(JJJ)Z" } : Jvm.MethodName) prog_2_method_2_code (7 : Nat) (Option.some Jvm.ClassFile.FieldType.boolean)) ∈ WG := WG_at 148 rfl rfl
theorem wg_125 : (Cond.constantLong "LitreFractions$Table" (22 : Nat) (100 : Int64)) ∈ WG := WG_at 149 rfl rfl
theorem wg_126 : (Cond.methodLink "LitreFractions$Table" (24 : Nat) ({ cls := "LitreFractions$Table", name := "isInside", desc := "(J)Z" } : Jvm.MethodName)) ∈ WG := WG_at 150 rfl rfl
theorem wg_127 : (Cond.static ({ cls := "LitreFractions$Table", name := "isInside", desc := "(J)Z" } : Jvm.MethodName)) ∈ WG := WG_at 151 rfl rfl
theorem wg_128 : (Cond.code ({ cls := "LitreFractions$Table", name := "isInside", desc := "(J)Z" } : Jvm.MethodName) prog_2_method_3_code (2 : Nat) (Option.some Jvm.ClassFile.FieldType.boolean)) ∈ WG := WG_at 152 rfl rfl
theorem wg_129 : (Cond.constantLong "LitreFractions$Table" (32 : Nat) (-10000 : Int64)) ∈ WG := WG_at 153 rfl rfl
theorem wg_130 : (Cond.constantLong "LitreFractions$Table" (34 : Nat) (10000 : Int64)) ∈ WG := WG_at 154 rfl rfl
theorem wg_131 : (Cond.instanceMethod ({ cls := "LitreFractions$Table", name := "append", desc := "(JJJ)V" } : Jvm.MethodName)) ∈ WG := WG_at 157 rfl rfl
theorem wg_132 : (Cond.code ({ cls := "LitreFractions$Table", name := "append", desc := "(JJJ)V" } : Jvm.MethodName) prog_2_method_4_code (7 : Nat) (Option.none : Option Jvm.ClassFile.FieldType)) ∈ WG := WG_at 158 rfl rfl
theorem wg_133 : (Cond.methodLink "LitreFractionsLaw" (67 : Nat) ({ cls := "LitreFractions", name := "join", desc := "(II)I" } : Jvm.MethodName)) ∈ WG := WG_at 159 rfl rfl
theorem wg_134 : (Cond.instanceMethod ({ cls := "LitreFractions", name := "join", desc := "(II)I" } : Jvm.MethodName)) ∈ WG := WG_at 160 rfl rfl
theorem wg_135 : (Cond.selects "LitreFractions" ({ cls := "LitreFractions", name := "join", desc := "(II)I" } : Jvm.MethodName) ({ cls := "LitreFractions", name := "join", desc := "(II)I" } : Jvm.MethodName)) ∈ WG := WG_at 161 rfl rfl
theorem wg_136 : (Cond.code ({ cls := "LitreFractions", name := "join", desc := "(II)I" } : Jvm.MethodName) prog_1_method_9_code (5 : Nat) (Option.some Jvm.ClassFile.FieldType.int)) ∈ WG := WG_at 162 rfl rfl
theorem wg_137 : (Cond.instanceMethod ({ cls := "LitreFractions$Table", name := "firstNotBefore", desc := "(JJ)I" } : Jvm.MethodName)) ∈ WG := WG_at 165 rfl rfl
theorem wg_138 : (Cond.code ({ cls := "LitreFractions$Table", name := "firstNotBefore", desc := "(JJ)I" } : Jvm.MethodName) prog_2_method_5_code (8 : Nat) (Option.some Jvm.ClassFile.FieldType.int)) ∈ WG := WG_at 166 rfl rfl
theorem wg_139 : (Cond.methodLink "LitreFractions" (98 : Nat) ({ cls := "LitreFractions", name := "keepBetween", desc := "(LLitreFractions$Table;II)I" } : Jvm.MethodName)) ∈ WG := WG_at 167 rfl rfl
theorem wg_140 : (Cond.instanceMethod ({ cls := "LitreFractions", name := "keepBetween", desc := "(LLitreFractions$Table;II)I" } : Jvm.MethodName)) ∈ WG := WG_at 169 rfl rfl
theorem wg_141 : (Cond.code ({ cls := "LitreFractions", name := "keepBetween", desc := "(LLitreFractions$Table;II)I" } : Jvm.MethodName) prog_1_method_26_code (12 : Nat) (Option.some Jvm.ClassFile.FieldType.int)) ∈ WG := WG_at 170 rfl rfl
theorem wg_142 : (Cond.methodLink "LitreFractionsLaw" (71 : Nat) ({ cls := "LitreFractions", name := "weight", desc := "(J)Z" } : Jvm.MethodName)) ∈ WG := WG_at 171 rfl rfl
theorem wg_143 : (Cond.instanceMethod ({ cls := "LitreFractions", name := "weight", desc := "(J)Z" } : Jvm.MethodName)) ∈ WG := WG_at 172 rfl rfl
theorem wg_144 : (Cond.selects "LitreFractions" ({ cls := "LitreFractions", name := "weight", desc := "(J)Z" } : Jvm.MethodName) ({ cls := "LitreFractions", name := "weight", desc := "(J)Z" } : Jvm.MethodName)) ∈ WG := WG_at 173 rfl rfl
theorem wg_145 : (Cond.code ({ cls := "LitreFractions", name := "weight", desc := "(J)Z" } : Jvm.MethodName) prog_1_method_10_code (3 : Nat) (Option.some Jvm.ClassFile.FieldType.boolean)) ∈ WG := WG_at 174 rfl rfl
theorem wg_146 : (Cond.constantLong "LitreFractions" (102 : Nat) (1000000 : Int64)) ∈ WG := WG_at 175 rfl rfl
theorem wg_147 : (Cond.methodLink "LitreFractionsLaw" (76 : Nat) ({ cls := "LitreFractions", name := "share", desc := "(II)I" } : Jvm.MethodName)) ∈ WG := WG_at 176 rfl rfl
theorem wg_148 : (Cond.instanceMethod ({ cls := "LitreFractions", name := "share", desc := "(II)I" } : Jvm.MethodName)) ∈ WG := WG_at 177 rfl rfl
theorem wg_149 : (Cond.selects "LitreFractions" ({ cls := "LitreFractions", name := "share", desc := "(II)I" } : Jvm.MethodName) ({ cls := "LitreFractions", name := "share", desc := "(II)I" } : Jvm.MethodName)) ∈ WG := WG_at 178 rfl rfl
theorem wg_150 : (Cond.code ({ cls := "LitreFractions", name := "share", desc := "(II)I" } : Jvm.MethodName) prog_1_method_11_code (11 : Nat) (Option.some Jvm.ClassFile.FieldType.int)) ∈ WG := WG_at 179 rfl rfl
theorem wg_151 : (Cond.methodLink "LitreFractions" (107 : Nat) ({ cls := "LitreFractions", name := "sumOfWeights", desc := "()J" } : Jvm.MethodName)) ∈ WG := WG_at 180 rfl rfl
theorem wg_152 : (Cond.instanceMethod ({ cls := "LitreFractions", name := "sumOfWeights", desc := "()J" } : Jvm.MethodName)) ∈ WG := WG_at 182 rfl rfl
theorem wg_153 : (Cond.code ({ cls := "LitreFractions", name := "sumOfWeights", desc := "()J" } : Jvm.MethodName) prog_1_method_27_code (4 : Nat) (Option.some Jvm.ClassFile.FieldType.long)) ∈ WG := WG_at 183 rfl rfl
theorem wg_154 : (Cond.constantLong "LitreFractions" (111 : Nat) (1000 : Int64)) ∈ WG := WG_at 184 rfl rfl
theorem wg_155 : (Cond.methodLink "LitreFractions" (113 : Nat) ({ cls := "LitreFractions", name := "thousandthsOf", desc := "(IJJ)J" } : Jvm.MethodName)) ∈ WG := WG_at 185 rfl rfl
theorem wg_156 : (Cond.instanceMethod ({ cls := "LitreFractions", name := "thousandthsOf", desc := "(IJJ)J" } : Jvm.MethodName)) ∈ WG := WG_at 187 rfl rfl
theorem wg_157 : (Cond.code ({ cls := "LitreFractions", name := "thousandthsOf", desc := "(IJJ)J" } : Jvm.MethodName) prog_1_method_28_code (18 : Nat) (Option.some Jvm.ClassFile.FieldType.long)) ∈ WG := WG_at 188 rfl rfl
theorem wg_158 : (Cond.methodLink "LitreFractionsLaw" (84 : Nat) ({ cls := "LitreFractions", name := "told", desc := "(II)J" } : Jvm.MethodName)) ∈ WG := WG_at 189 rfl rfl
theorem wg_159 : (Cond.instanceMethod ({ cls := "LitreFractions", name := "told", desc := "(II)J" } : Jvm.MethodName)) ∈ WG := WG_at 190 rfl rfl
theorem wg_160 : (Cond.selects "LitreFractions" ({ cls := "LitreFractions", name := "told", desc := "(II)J" } : Jvm.MethodName) ({ cls := "LitreFractions", name := "told", desc := "(II)J" } : Jvm.MethodName)) ∈ WG := WG_at 191 rfl rfl
theorem wg_161 : (Cond.code ({ cls := "LitreFractions", name := "told", desc := "(II)J" } : Jvm.MethodName) prog_1_method_13_code (4 : Nat) (Option.some Jvm.ClassFile.FieldType.long)) ∈ WG := WG_at 192 rfl rfl
theorem wg_162 : (Cond.constantLong "LitreFractions" (135 : Nat) (-9 : Int64)) ∈ WG := WG_at 193 rfl rfl
theorem wg_163 : (Cond.methodLink "LitreFractionsLaw" (89 : Nat) ({ cls := "LitreFractions", name := "clear", desc := "()V" } : Jvm.MethodName)) ∈ WG := WG_at 194 rfl rfl
theorem wg_164 : (Cond.instanceMethod ({ cls := "LitreFractions", name := "clear", desc := "()V" } : Jvm.MethodName)) ∈ WG := WG_at 195 rfl rfl
theorem wg_165 : (Cond.selects "LitreFractions" ({ cls := "LitreFractions", name := "clear", desc := "()V" } : Jvm.MethodName) ({ cls := "LitreFractions", name := "clear", desc := "()V" } : Jvm.MethodName)) ∈ WG := WG_at 196 rfl rfl
theorem wg_166 : (Cond.code ({ cls := "LitreFractions", name := "clear", desc := "()V" } : Jvm.MethodName) prog_1_method_14_code (3 : Nat) (Option.none : Option Jvm.ClassFile.FieldType)) ∈ WG := WG_at 197 rfl rfl
theorem wg_167 : (Cond.methodLink "LitreFractionsLaw" (31 : Nat) ({ cls := "LitreFractionsLaw", name := "value", desc := "(LLitreFractions;JJI[J)I" } : Jvm.MethodName)) ∈ WG := WG_at 198 rfl rfl
theorem wg_168 : (Cond.static ({ cls := "LitreFractionsLaw", name := "value", desc := "(LLitreFractions;JJI[J)I" } : Jvm.MethodName)) ∈ WG := WG_at 199 rfl rfl
theorem wg_169 : (Cond.classLink "LitreFractionsLaw" (13 : Nat) "java/lang/ArithmeticException") ∈ WG := WG_at 201 rfl rfl
theorem wg_170 : (Cond.methodLink "LitreFractionsLaw" (7 : Nat) ({ cls := "LitreFractions", name := "value", desc := "(JJI)I" } : Jvm.MethodName)) ∈ WG := WG_at 202 rfl rfl
theorem wg_171 : (Cond.instanceMethod ({ cls := "LitreFractions", name := "value", desc := "(JJI)I" } : Jvm.MethodName)) ∈ WG := WG_at 203 rfl rfl
theorem wg_172 : (Cond.selects "LitreFractions" ({ cls := "LitreFractions", name := "value", desc := "(JJI)I" } : Jvm.MethodName) ({ cls := "LitreFractions", name := "value", desc := "(JJI)I" } : Jvm.MethodName)) ∈ WG := WG_at 204 rfl rfl
theorem wg_173 : (Cond.code ({ cls := "LitreFractions", name := "value", desc := "(JJI)I" } : Jvm.MethodName) prog_1_method_2_code (6 : Nat) (Option.some Jvm.ClassFile.FieldType.int)) ∈ WG := WG_at 205 rfl rfl
theorem wg_174 : (Cond.classLink "LitreFractions" (30 : Nat) "java/lang/ArithmeticException") ∈ WG := WG_at 206 rfl rfl
theorem wg_175 : (Cond.instantiable "java/lang/ArithmeticException" (6 : Nat)) ∈ WG := WG_at 207 rfl rfl
theorem wg_176 : (Cond.selects "java/lang/ArithmeticException" ({ cls := "java/lang/Throwable", name := "fillInStackTrace", desc := "(I)Ljava/lang/Throwable;" } : Jvm.MethodName) ({ cls := "java/lang/Throwable", name := "fillInStackTrace", desc := "(I)Ljava/lang/Throwable;" } : Jvm.MethodName)) ∈ WG := WG_at 215 rfl rfl
theorem wg_177 : (Cond.selects "java/lang/ArithmeticException" ({ cls := "java/lang/Throwable", name := "fillInStackTrace", desc := "()Ljava/lang/Throwable;" } : Jvm.MethodName) ({ cls := "java/lang/Throwable", name := "fillInStackTrace", desc := "()Ljava/lang/Throwable;" } : Jvm.MethodName)) ∈ WG := WG_at 216 rfl rfl
theorem wg_178 : (Cond.lays "java/lang/ArithmeticException" "java/lang/Throwable" "cause" "Ljava/lang/Throwable;") ∈ WG := WG_at 217 rfl rfl
theorem wg_179 : (Cond.lays "java/lang/Throwable" "java/lang/Throwable" "cause" "Ljava/lang/Throwable;") ∈ WG := WG_at 218 rfl rfl
theorem wg_180 : (Cond.lays "java/lang/ArithmeticException" "java/lang/Throwable" "stackTrace" "[Ljava/lang/StackTraceElement;") ∈ WG := WG_at 219 rfl rfl
theorem wg_181 : (Cond.lays "java/lang/Throwable" "java/lang/Throwable" "stackTrace" "[Ljava/lang/StackTraceElement;") ∈ WG := WG_at 220 rfl rfl
theorem wg_182 : (Cond.lays "java/lang/ArithmeticException" "java/lang/Throwable" "suppressedExceptions" "Ljava/util/List;") ∈ WG := WG_at 221 rfl rfl
theorem wg_183 : (Cond.lays "java/lang/Throwable" "java/lang/Throwable" "suppressedExceptions" "Ljava/util/List;") ∈ WG := WG_at 222 rfl rfl
theorem wg_184 : (Cond.lays "java/lang/ArithmeticException" "java/lang/Throwable" "detailMessage" "Ljava/lang/String;") ∈ WG := WG_at 223 rfl rfl
theorem wg_185 : (Cond.lays "java/lang/Throwable" "java/lang/Throwable" "detailMessage" "Ljava/lang/String;") ∈ WG := WG_at 224 rfl rfl
theorem wg_186 : (Cond.lays "java/lang/ArithmeticException" "java/lang/Throwable" "backtrace" "Ljava/lang/Object;") ∈ WG := WG_at 225 rfl rfl
theorem wg_187 : (Cond.lays "java/lang/Throwable" "java/lang/Throwable" "backtrace" "Ljava/lang/Object;") ∈ WG := WG_at 226 rfl rfl
theorem wg_188 : (Cond.fieldLink "java/lang/Throwable" (198 : Nat) "java/lang/Throwable" "backtrace" "Ljava/lang/Object;") ∈ WG := WG_at 227 rfl rfl
theorem wg_189 : (Cond.instanceMethod ({ cls := "java/lang/Throwable", name := "<init>", desc := "()V" } : Jvm.MethodName)) ∈ WG := WG_at 229 rfl rfl
theorem wg_190 : (Cond.code ({ cls := "java/lang/Throwable", name := "<init>", desc := "()V" } : Jvm.MethodName) prog_12_method_1_code (1 : Nat) (Option.none : Option Jvm.ClassFile.FieldType)) ∈ WG := WG_at 230 rfl rfl
theorem wg_191 : (Cond.methodLink "java/lang/Throwable" (1 : Nat) ({ cls := "java/lang/Object", name := "<init>", desc := "()V" } : Jvm.MethodName)) ∈ WG := WG_at 231 rfl rfl
theorem wg_192 : (Cond.fieldLink "java/lang/Throwable" (13 : Nat) "java/lang/Throwable" "UNASSIGNED_STACK" "[Ljava/lang/StackTraceElement;") ∈ WG := WG_at 232 rfl rfl
theorem wg_193 : (Cond.fieldLink "java/lang/Throwable" (20 : Nat) "java/lang/Throwable" "SUPPRESSED_SENTINEL" "Ljava/util/List;") ∈ WG := WG_at 234 rfl rfl
theorem wg_194 : (Cond.methodLink "java/lang/Throwable" (27 : Nat) ({ cls := "java/lang/Throwable", name := "fillInStackTrace", desc := "()Ljava/lang/Throwable;" } : Jvm.MethodName)) ∈ WG := WG_at 236 rfl rfl
theorem wg_195 : (Cond.instanceMethod ({ cls := "java/lang/Throwable", name := "fillInStackTrace", desc := "()Ljava/lang/Throwable;" } : Jvm.MethodName)) ∈ WG := WG_at 237 rfl rfl
theorem wg_196 : (Cond.selects "java/lang/IndexOutOfBoundsException" ({ cls := "java/lang/Throwable", name := "fillInStackTrace", desc := "()Ljava/lang/Throwable;" } : Jvm.MethodName) ({ cls := "java/lang/Throwable", name := "fillInStackTrace", desc := "()Ljava/lang/Throwable;" } : Jvm.MethodName)) ∈ WG := WG_at 239 rfl rfl
theorem wg_197 : (Cond.methodLink "java/lang/Throwable" (202 : Nat) ({ cls := "java/lang/Throwable", name := "fillInStackTrace", desc := "(I)Ljava/lang/Throwable;" } : Jvm.MethodName)) ∈ WG := WG_at 241 rfl rfl
theorem wg_198 : (Cond.instanceMethod ({ cls := "java/lang/Throwable", name := "fillInStackTrace", desc := "(I)Ljava/lang/Throwable;" } : Jvm.MethodName)) ∈ WG := WG_at 243 rfl rfl
theorem wg_199 : (Cond.instantiable "java/lang/Throwable" (6 : Nat)) ∈ WG := WG_at 244 rfl rfl
theorem wg_200 : (Cond.methodLink "LitreFractions" (34 : Nat) ({ cls := "java/lang/ArithmeticException", name := "<init>", desc := "(Ljava/lang/String;)V" } : Jvm.MethodName)) ∈ WG := WG_at 247 rfl rfl
theorem wg_201 : (Cond.instanceMethod ({ cls := "java/lang/ArithmeticException", name := "<init>", desc := "(Ljava/lang/String;)V" } : Jvm.MethodName)) ∈ WG := WG_at 248 rfl rfl
theorem wg_202 : (Cond.code ({ cls := "java/lang/ArithmeticException", name := "<init>", desc := "(Ljava/lang/String;)V" } : Jvm.MethodName) prog_5_method_2_code (2 : Nat) (Option.none : Option Jvm.ClassFile.FieldType)) ∈ WG := WG_at 249 rfl rfl
theorem wg_203 : (Cond.methodLink "java/lang/ArithmeticException" (7 : Nat) ({ cls := "java/lang/RuntimeException", name := "<init>", desc := "(Ljava/lang/String;)V" } : Jvm.MethodName)) ∈ WG := WG_at 250 rfl rfl
theorem wg_204 : (Cond.instanceMethod ({ cls := "java/lang/RuntimeException", name := "<init>", desc := "(Ljava/lang/String;)V" } : Jvm.MethodName)) ∈ WG := WG_at 251 rfl rfl
theorem wg_205 : (Cond.code ({ cls := "java/lang/RuntimeException", name := "<init>", desc := "(Ljava/lang/String;)V" } : Jvm.MethodName) prog_10_method_2_code (2 : Nat) (Option.none : Option Jvm.ClassFile.FieldType)) ∈ WG := WG_at 252 rfl rfl
theorem wg_206 : (Cond.methodLink "java/lang/RuntimeException" (7 : Nat) ({ cls := "java/lang/Exception", name := "<init>", desc := "(Ljava/lang/String;)V" } : Jvm.MethodName)) ∈ WG := WG_at 253 rfl rfl
theorem wg_207 : (Cond.instanceMethod ({ cls := "java/lang/Exception", name := "<init>", desc := "(Ljava/lang/String;)V" } : Jvm.MethodName)) ∈ WG := WG_at 254 rfl rfl
theorem wg_208 : (Cond.code ({ cls := "java/lang/Exception", name := "<init>", desc := "(Ljava/lang/String;)V" } : Jvm.MethodName) prog_6_method_2_code (2 : Nat) (Option.none : Option Jvm.ClassFile.FieldType)) ∈ WG := WG_at 255 rfl rfl
theorem wg_209 : (Cond.methodLink "java/lang/Exception" (7 : Nat) ({ cls := "java/lang/Throwable", name := "<init>", desc := "(Ljava/lang/String;)V" } : Jvm.MethodName)) ∈ WG := WG_at 256 rfl rfl
theorem wg_210 : (Cond.instanceMethod ({ cls := "java/lang/Throwable", name := "<init>", desc := "(Ljava/lang/String;)V" } : Jvm.MethodName)) ∈ WG := WG_at 257 rfl rfl
theorem wg_211 : (Cond.code ({ cls := "java/lang/Throwable", name := "<init>", desc := "(Ljava/lang/String;)V" } : Jvm.MethodName) prog_12_method_2_code (2 : Nat) (Option.none : Option Jvm.ClassFile.FieldType)) ∈ WG := WG_at 258 rfl rfl
theorem wg_212 : (Cond.fieldLink "java/lang/Throwable" (198 : Nat) "java/lang/Throwable" "backtrace" "Ljava/lang/Object;") ∈ WG := WG_at 259 rfl rfl
theorem wg_213 : (Cond.fieldLink "java/lang/Throwable" (31 : Nat) "java/lang/Throwable" "detailMessage" "Ljava/lang/String;") ∈ WG := WG_at 260 rfl rfl
theorem wg_214 : (Cond.fieldLink "java/lang/Throwable" (7 : Nat) "java/lang/Throwable" "cause" "Ljava/lang/Throwable;") ∈ WG := WG_at 261 rfl rfl
theorem wg_215 : (Cond.fieldLink "java/lang/Throwable" (17 : Nat) "java/lang/Throwable" "stackTrace" "[Ljava/lang/StackTraceElement;") ∈ WG := WG_at 262 rfl rfl
theorem wg_216 : (Cond.fieldLink "java/lang/Throwable" (24 : Nat) "java/lang/Throwable" "suppressedExceptions" "Ljava/util/List;") ∈ WG := WG_at 263 rfl rfl
theorem wg_217 : (Cond.lays "java/lang/ArithmeticException" "java/lang/Throwable" "depth" "I") ∈ WG := WG_at 268 rfl rfl
theorem wg_218 : (Cond.arrayClass Jvm.ClassFile.FieldType.byte) ∈ WG := WG_at 272 rfl rfl
theorem wg_219 : (Cond.methodLink "LitreFractions" (37 : Nat) ({ cls := "LitreFractions", name := "isTooFar", desc := "(J)Z" } : Jvm.MethodName)) ∈ WG := WG_at 273 rfl rfl
theorem wg_220 : (Cond.static ({ cls := "LitreFractions", name := "isTooFar", desc := "(J)Z" } : Jvm.MethodName)) ∈ WG := WG_at 274 rfl rfl
theorem wg_221 : (Cond.code ({ cls := "LitreFractions", name := "isTooFar", desc := "(J)Z" } : Jvm.MethodName) prog_1_method_17_code (2 : Nat) (Option.some Jvm.ClassFile.FieldType.boolean)) ∈ WG := WG_at 275 rfl rfl
theorem wg_222 : (Cond.constantLong "LitreFractions" (140 : Nat) (-1000000000000000000 : Int64)) ∈ WG := WG_at 276 rfl rfl
theorem wg_223 : (Cond.constantLong "LitreFractions" (142 : Nat) (1000000000000000000 : Int64)) ∈ WG := WG_at 277 rfl rfl
theorem wg_224 : (Cond.methodLink "LitreFractionsLaw" (49 : Nat) ({ cls := "LitreFractionsLaw", name := "over", desc := "(LLitreFractions;II[J)I" } : Jvm.MethodName)) ∈ WG := WG_at 278 rfl rfl
theorem wg_225 : (Cond.static ({ cls := "LitreFractionsLaw", name := "over", desc := "(LLitreFractions;II[J)I" } : Jvm.MethodName)) ∈ WG := WG_at 279 rfl rfl
theorem wg_226 : (Cond.methodLink "LitreFractionsLaw" (15 : Nat) ({ cls := "LitreFractions", name := "over", desc := "(II)I" } : Jvm.MethodName)) ∈ WG := WG_at 281 rfl rfl
theorem wg_227 : (Cond.instanceMethod ({ cls := "LitreFractions", name := "over", desc := "(II)I" } : Jvm.MethodName)) ∈ WG := WG_at 282 rfl rfl
theorem wg_228 : (Cond.selects "LitreFractions" ({ cls := "LitreFractions", name := "over", desc := "(II)I" } : Jvm.MethodName) ({ cls := "LitreFractions", name := "over", desc := "(II)I" } : Jvm.MethodName)) ∈ WG := WG_at 283 rfl rfl
theorem wg_229 : (Cond.code ({ cls := "LitreFractions", name := "over", desc := "(II)I" } : Jvm.MethodName) prog_1_method_5_code (4 : Nat) (Option.some Jvm.ClassFile.FieldType.int)) ∈ WG := WG_at 284 rfl rfl
theorem wg_230 : (Cond.methodLink "LitreFractions" (53 : Nat) ({ cls := "LitreFractions", name := "unitOfQuotient", desc := "(II)I" } : Jvm.MethodName)) ∈ WG := WG_at 285 rfl rfl
theorem wg_231 : (Cond.static ({ cls := "LitreFractions", name := "unitOfQuotient", desc := "(II)I" } : Jvm.MethodName)) ∈ WG := WG_at 286 rfl rfl
theorem wg_232 : (Cond.code ({ cls := "LitreFractions", name := "unitOfQuotient", desc := "(II)I" } : Jvm.MethodName) prog_1_method_23_code (2 : Nat) (Option.some Jvm.ClassFile.FieldType.int)) ∈ WG := WG_at 287 rfl rfl
theorem wg_233 : (Cond.methodLink "LitreFractionsLaw" (80 : Nat) ({ cls := "LitreFractionsLaw", name := "digit", desc := "(LLitreFractions;III[J)I" } : Jvm.MethodName)) ∈ WG := WG_at 289 rfl rfl
theorem wg_234 : (Cond.static ({ cls := "LitreFractionsLaw", name := "digit", desc := "(LLitreFractions;III[J)I" } : Jvm.MethodName)) ∈ WG := WG_at 290 rfl rfl
theorem wg_235 : (Cond.classLink "LitreFractionsLaw" (23 : Nat) "java/lang/IndexOutOfBoundsException") ∈ WG := WG_at 292 rfl rfl
theorem wg_236 : (Cond.methodLink "LitreFractionsLaw" (19 : Nat) ({ cls := "LitreFractions", name := "digit", desc := "(III)I" } : Jvm.MethodName)) ∈ WG := WG_at 293 rfl rfl
theorem wg_237 : (Cond.instanceMethod ({ cls := "LitreFractions", name := "digit", desc := "(III)I" } : Jvm.MethodName)) ∈ WG := WG_at 294 rfl rfl
theorem wg_238 : (Cond.selects "LitreFractions" ({ cls := "LitreFractions", name := "digit", desc := "(III)I" } : Jvm.MethodName) ({ cls := "LitreFractions", name := "digit", desc := "(III)I" } : Jvm.MethodName)) ∈ WG := WG_at 295 rfl rfl
theorem wg_239 : (Cond.code ({ cls := "LitreFractions", name := "digit", desc := "(III)I" } : Jvm.MethodName) prog_1_method_12_code (9 : Nat) (Option.some Jvm.ClassFile.FieldType.int)) ∈ WG := WG_at 296 rfl rfl
theorem wg_240 : (Cond.methodLink "LitreFractions" (123 : Nat) ({ cls := "LitreFractions", name := "digitBefore", desc := "(JI)I" } : Jvm.MethodName)) ∈ WG := WG_at 297 rfl rfl
theorem wg_241 : (Cond.static ({ cls := "LitreFractions", name := "digitBefore", desc := "(JI)I" } : Jvm.MethodName)) ∈ WG := WG_at 298 rfl rfl
theorem wg_242 : (Cond.code ({ cls := "LitreFractions", name := "digitBefore", desc := "(JI)I" } : Jvm.MethodName) prog_1_method_29_code (6 : Nat) (Option.some Jvm.ClassFile.FieldType.int)) ∈ WG := WG_at 299 rfl rfl
theorem wg_243 : (Cond.constantLong "LitreFractions" (171 : Nat) (10 : Int64)) ∈ WG := WG_at 300 rfl rfl
theorem wg_244 : (Cond.methodLink "LitreFractions" (127 : Nat) ({ cls := "LitreFractions", name := "digitBehind", desc := "(JJI)I" } : Jvm.MethodName)) ∈ WG := WG_at 301 rfl rfl
theorem wg_245 : (Cond.static ({ cls := "LitreFractions", name := "digitBehind", desc := "(JJI)I" } : Jvm.MethodName)) ∈ WG := WG_at 302 rfl rfl
theorem wg_246 : (Cond.code ({ cls := "LitreFractions", name := "digitBehind", desc := "(JJI)I" } : Jvm.MethodName) prog_1_method_30_code (8 : Nat) (Option.some Jvm.ClassFile.FieldType.int)) ∈ WG := WG_at 303 rfl rfl
theorem wg_247 : (Cond.classLink "LitreFractions" (130 : Nat) "java/lang/IndexOutOfBoundsException") ∈ WG := WG_at 304 rfl rfl
theorem wg_248 : (Cond.instantiable "java/lang/IndexOutOfBoundsException" (6 : Nat)) ∈ WG := WG_at 305 rfl rfl
theorem wg_249 : (Cond.selects "java/lang/IndexOutOfBoundsException" ({ cls := "java/lang/Throwable", name := "fillInStackTrace", desc := "(I)Ljava/lang/Throwable;" } : Jvm.MethodName) ({ cls := "java/lang/Throwable", name := "fillInStackTrace", desc := "(I)Ljava/lang/Throwable;" } : Jvm.MethodName)) ∈ WG := WG_at 307 rfl rfl
theorem wg_250 : (Cond.lays "java/lang/IndexOutOfBoundsException" "java/lang/Throwable" "cause" "Ljava/lang/Throwable;") ∈ WG := WG_at 308 rfl rfl
theorem wg_251 : (Cond.lays "java/lang/IndexOutOfBoundsException" "java/lang/Throwable" "stackTrace" "[Ljava/lang/StackTraceElement;") ∈ WG := WG_at 309 rfl rfl
theorem wg_252 : (Cond.lays "java/lang/IndexOutOfBoundsException" "java/lang/Throwable" "suppressedExceptions" "Ljava/util/List;") ∈ WG := WG_at 310 rfl rfl
theorem wg_253 : (Cond.lays "java/lang/IndexOutOfBoundsException" "java/lang/Throwable" "detailMessage" "Ljava/lang/String;") ∈ WG := WG_at 311 rfl rfl
theorem wg_254 : (Cond.lays "java/lang/IndexOutOfBoundsException" "java/lang/Throwable" "backtrace" "Ljava/lang/Object;") ∈ WG := WG_at 312 rfl rfl
theorem wg_255 : (Cond.methodLink "LitreFractions" (134 : Nat) ({ cls := "java/lang/IndexOutOfBoundsException", name := "<init>", desc := "(Ljava/lang/String;)V" } : Jvm.MethodName)) ∈ WG := WG_at 314 rfl rfl
theorem wg_256 : (Cond.instanceMethod ({ cls := "java/lang/IndexOutOfBoundsException", name := "<init>", desc := "(Ljava/lang/String;)V" } : Jvm.MethodName)) ∈ WG := WG_at 315 rfl rfl
theorem wg_257 : (Cond.code ({ cls := "java/lang/IndexOutOfBoundsException", name := "<init>", desc := "(Ljava/lang/String;)V" } : Jvm.MethodName) prog_7_method_2_code (2 : Nat) (Option.none : Option Jvm.ClassFile.FieldType)) ∈ WG := WG_at 316 rfl rfl
theorem wg_258 : (Cond.methodLink "java/lang/IndexOutOfBoundsException" (7 : Nat) ({ cls := "java/lang/RuntimeException", name := "<init>", desc := "(Ljava/lang/String;)V" } : Jvm.MethodName)) ∈ WG := WG_at 317 rfl rfl
theorem wg_259 : (Cond.lays "java/lang/IndexOutOfBoundsException" "java/lang/Throwable" "depth" "I") ∈ WG := WG_at 318 rfl rfl
theorem wg_260 : (Cond.classLink "LitreFractionsLaw" (26 : Nat) "LitreFractionsModel") ∈ WG := WG_at 320 rfl rfl
theorem wg_261 : (Cond.instantiable "LitreFractionsModel" (11 : Nat)) ∈ WG := WG_at 321 rfl rfl
theorem wg_262 : (Cond.methodLink "LitreFractionsLaw" (28 : Nat) ({ cls := "LitreFractionsModel", name := "<init>", desc := "()V" } : Jvm.MethodName)) ∈ WG := WG_at 322 rfl rfl
theorem wg_263 : (Cond.instanceMethod ({ cls := "LitreFractionsModel", name := "<init>", desc := "()V" } : Jvm.MethodName)) ∈ WG := WG_at 323 rfl rfl
theorem wg_264 : (Cond.code ({ cls := "LitreFractionsModel", name := "<init>", desc := "()V" } : Jvm.MethodName) prog_4_method_1_code (1 : Nat) (Option.none : Option Jvm.ClassFile.FieldType)) ∈ WG := WG_at 324 rfl rfl
theorem wg_265 : (Cond.methodLink "LitreFractionsModel" (1 : Nat) ({ cls := "java/lang/Object", name := "<init>", desc := "()V" } : Jvm.MethodName)) ∈ WG := WG_at 325 rfl rfl
theorem wg_266 : (Cond.fieldLink "LitreFractionsModel" (35 : Nat) "LitreFractionsModel" "code" "I") ∈ WG := WG_at 326 rfl rfl
theorem wg_267 : (Cond.fieldLink "LitreFractionsModel" (39 : Nat) "LitreFractionsModel" "amounts" "I") ∈ WG := WG_at 327 rfl rfl
theorem wg_268 : (Cond.fieldLink "LitreFractionsModel" (7 : Nat) "LitreFractionsModel" "up" "[J") ∈ WG := WG_at 328 rfl rfl
theorem wg_269 : (Cond.fieldLink "LitreFractionsModel" (13 : Nat) "LitreFractionsModel" "down" "[J") ∈ WG := WG_at 329 rfl rfl
theorem wg_270 : (Cond.fieldLink "LitreFractionsModel" (16 : Nat) "LitreFractionsModel" "units" "[I") ∈ WG := WG_at 330 rfl rfl
theorem wg_271 : (Cond.fieldLink "LitreFractionsModel" (20 : Nat) "LitreFractionsModel" "rows" "[I") ∈ WG := WG_at 331 rfl rfl
theorem wg_272 : (Cond.fieldLink "LitreFractionsModel" (23 : Nat) "LitreFractionsModel" "xs" "[J") ∈ WG := WG_at 332 rfl rfl
theorem wg_273 : (Cond.fieldLink "LitreFractionsModel" (26 : Nat) "LitreFractionsModel" "ys" "[J") ∈ WG := WG_at 333 rfl rfl
theorem wg_274 : (Cond.fieldLink "LitreFractionsModel" (29 : Nat) "LitreFractionsModel" "belows" "[J") ∈ WG := WG_at 334 rfl rfl
theorem wg_275 : (Cond.fieldLink "LitreFractionsModel" (84 : Nat) "LitreFractionsModel" "weights" "I") ∈ WG := WG_at 335 rfl rfl
theorem wg_276 : (Cond.fieldLink "LitreFractionsModel" (32 : Nat) "LitreFractionsModel" "weight" "[J") ∈ WG := WG_at 336 rfl rfl
theorem wg_277 : (Cond.lays "LitreFractionsModel" "LitreFractionsModel" "code" "I") ∈ WG := WG_at 337 rfl rfl
theorem wg_278 : (Cond.lays "LitreFractionsModel" "LitreFractionsModel" "amounts" "I") ∈ WG := WG_at 339 rfl rfl
theorem wg_279 : (Cond.laysFinal "LitreFractionsModel" "LitreFractionsModel" "up" "[J") ∈ WG := WG_at 341 rfl rfl
theorem wg_280 : (Cond.laysFinal "LitreFractionsModel" "LitreFractionsModel" "down" "[J") ∈ WG := WG_at 343 rfl rfl
theorem wg_281 : (Cond.laysFinal "LitreFractionsModel" "LitreFractionsModel" "units" "[I") ∈ WG := WG_at 345 rfl rfl
theorem wg_282 : (Cond.laysFinal "LitreFractionsModel" "LitreFractionsModel" "rows" "[I") ∈ WG := WG_at 347 rfl rfl
theorem wg_283 : (Cond.laysFinal "LitreFractionsModel" "LitreFractionsModel" "xs" "[J") ∈ WG := WG_at 349 rfl rfl
theorem wg_284 : (Cond.laysFinal "LitreFractionsModel" "LitreFractionsModel" "ys" "[J") ∈ WG := WG_at 351 rfl rfl
theorem wg_285 : (Cond.laysFinal "LitreFractionsModel" "LitreFractionsModel" "belows" "[J") ∈ WG := WG_at 353 rfl rfl
theorem wg_286 : (Cond.lays "LitreFractionsModel" "LitreFractionsModel" "weights" "I") ∈ WG := WG_at 355 rfl rfl
theorem wg_287 : (Cond.laysFinal "LitreFractionsModel" "LitreFractionsModel" "weight" "[J") ∈ WG := WG_at 357 rfl rfl
theorem wg_288 : (Cond.methodLink "LitreFractionsLaw" (37 : Nat) ({ cls := "LitreFractionsModel", name := "thrown", desc := "()I" } : Jvm.MethodName)) ∈ WG := WG_at 360 rfl rfl
theorem wg_289 : (Cond.instanceMethod ({ cls := "LitreFractionsModel", name := "thrown", desc := "()I" } : Jvm.MethodName)) ∈ WG := WG_at 361 rfl rfl
theorem wg_290 : (Cond.selects "LitreFractionsModel" ({ cls := "LitreFractionsModel", name := "thrown", desc := "()I" } : Jvm.MethodName) ({ cls := "LitreFractionsModel", name := "thrown", desc := "()I" } : Jvm.MethodName)) ∈ WG := WG_at 362 rfl rfl
theorem wg_291 : (Cond.code ({ cls := "LitreFractionsModel", name := "thrown", desc := "()I" } : Jvm.MethodName) prog_4_method_2_code (1 : Nat) (Option.some Jvm.ClassFile.FieldType.int)) ∈ WG := WG_at 363 rfl rfl
theorem wg_292 : (Cond.methodLink "LitreFractionsLaw" (36 : Nat) ({ cls := "LitreFractionsModel", name := "value", desc := "(JJI)I" } : Jvm.MethodName)) ∈ WG := WG_at 364 rfl rfl
theorem wg_293 : (Cond.instanceMethod ({ cls := "LitreFractionsModel", name := "value", desc := "(JJI)I" } : Jvm.MethodName)) ∈ WG := WG_at 365 rfl rfl
theorem wg_294 : (Cond.selects "LitreFractionsModel" ({ cls := "LitreFractionsModel", name := "value", desc := "(JJI)I" } : Jvm.MethodName) ({ cls := "LitreFractionsModel", name := "value", desc := "(JJI)I" } : Jvm.MethodName)) ∈ WG := WG_at 366 rfl rfl
theorem wg_295 : (Cond.code ({ cls := "LitreFractionsModel", name := "value", desc := "(JJI)I" } : Jvm.MethodName) prog_4_method_6_code (6 : Nat) (Option.some Jvm.ClassFile.FieldType.int)) ∈ WG := WG_at 367 rfl rfl
theorem wg_296 : (Cond.constantLong "LitreFractionsModel" (50 : Nat) (-1000000000000000000 : Int64)) ∈ WG := WG_at 368 rfl rfl
theorem wg_297 : (Cond.constantLong "LitreFractionsModel" (52 : Nat) (1000000000000000000 : Int64)) ∈ WG := WG_at 369 rfl rfl
theorem wg_298 : (Cond.methodLink "LitreFractionsModel" (54 : Nat) ({ cls := "LitreFractionsModel", name := "make", desc := "(JJI)I" } : Jvm.MethodName)) ∈ WG := WG_at 370 rfl rfl
theorem wg_299 : (Cond.instanceMethod ({ cls := "LitreFractionsModel", name := "make", desc := "(JJI)I" } : Jvm.MethodName)) ∈ WG := WG_at 372 rfl rfl
theorem wg_300 : (Cond.code ({ cls := "LitreFractionsModel", name := "make", desc := "(JJI)I" } : Jvm.MethodName) prog_4_method_5_code (12 : Nat) (Option.some Jvm.ClassFile.FieldType.int)) ∈ WG := WG_at 373 rfl rfl
theorem wg_301 : (Cond.methodLink "LitreFractionsModel" (42 : Nat) ({ cls := "LitreFractionsModel", name := "common", desc := "(JJ)J" } : Jvm.MethodName)) ∈ WG := WG_at 374 rfl rfl
theorem wg_302 : (Cond.static ({ cls := "LitreFractionsModel", name := "common", desc := "(JJ)J" } : Jvm.MethodName)) ∈ WG := WG_at 375 rfl rfl
theorem wg_303 : (Cond.code ({ cls := "LitreFractionsModel", name := "common", desc := "(JJ)J" } : Jvm.MethodName) prog_4_method_4_code (10 : Nat) (Option.some Jvm.ClassFile.FieldType.long)) ∈ WG := WG_at 376 rfl rfl
theorem wg_304 : (Cond.constantLong "LitreFractionsModel" (46 : Nat) (2147483647 : Int64)) ∈ WG := WG_at 377 rfl rfl
theorem wg_305 : (Cond.constantLong "LitreFractionsModel" (48 : Nat) (-2147483647 : Int64)) ∈ WG := WG_at 378 rfl rfl
theorem wg_306 : (Cond.methodLink "LitreFractionsLaw" (44 : Nat) ({ cls := "LitreFractionsModel", name := "add", desc := "(II)I" } : Jvm.MethodName)) ∈ WG := WG_at 379 rfl rfl
theorem wg_307 : (Cond.instanceMethod ({ cls := "LitreFractionsModel", name := "add", desc := "(II)I" } : Jvm.MethodName)) ∈ WG := WG_at 380 rfl rfl
theorem wg_308 : (Cond.selects "LitreFractionsModel" ({ cls := "LitreFractionsModel", name := "add", desc := "(II)I" } : Jvm.MethodName) ({ cls := "LitreFractionsModel", name := "add", desc := "(II)I" } : Jvm.MethodName)) ∈ WG := WG_at 381 rfl rfl
theorem wg_309 : (Cond.code ({ cls := "LitreFractionsModel", name := "add", desc := "(II)I" } : Jvm.MethodName) prog_4_method_7_code (3 : Nat) (Option.some Jvm.ClassFile.FieldType.int)) ∈ WG := WG_at 382 rfl rfl
theorem wg_310 : (Cond.methodLink "LitreFractionsModel" (58 : Nat) ({ cls := "LitreFractionsModel", name := "isAmount", desc := "(I)Z" } : Jvm.MethodName)) ∈ WG := WG_at 383 rfl rfl
theorem wg_311 : (Cond.instanceMethod ({ cls := "LitreFractionsModel", name := "isAmount", desc := "(I)Z" } : Jvm.MethodName)) ∈ WG := WG_at 385 rfl rfl
theorem wg_312 : (Cond.code ({ cls := "LitreFractionsModel", name := "isAmount", desc := "(I)Z" } : Jvm.MethodName) prog_4_method_3_code (2 : Nat) (Option.some Jvm.ClassFile.FieldType.boolean)) ∈ WG := WG_at 386 rfl rfl
theorem wg_313 : (Cond.methodLink "LitreFractionsLaw" (48 : Nat) ({ cls := "LitreFractionsModel", name := "times", desc := "(II)I" } : Jvm.MethodName)) ∈ WG := WG_at 387 rfl rfl
theorem wg_314 : (Cond.instanceMethod ({ cls := "LitreFractionsModel", name := "times", desc := "(II)I" } : Jvm.MethodName)) ∈ WG := WG_at 388 rfl rfl
theorem wg_315 : (Cond.selects "LitreFractionsModel" ({ cls := "LitreFractionsModel", name := "times", desc := "(II)I" } : Jvm.MethodName) ({ cls := "LitreFractionsModel", name := "times", desc := "(II)I" } : Jvm.MethodName)) ∈ WG := WG_at 389 rfl rfl
theorem wg_316 : (Cond.code ({ cls := "LitreFractionsModel", name := "times", desc := "(II)I" } : Jvm.MethodName) prog_4_method_9_code (6 : Nat) (Option.some Jvm.ClassFile.FieldType.int)) ∈ WG := WG_at 390 rfl rfl
theorem wg_317 : (Cond.methodLink "LitreFractionsModel" (62 : Nat) ({ cls := "LitreFractionsModel", name := "areTwo", desc := "(IIII)Z" } : Jvm.MethodName)) ∈ WG := WG_at 391 rfl rfl
theorem wg_318 : (Cond.static ({ cls := "LitreFractionsModel", name := "areTwo", desc := "(IIII)Z" } : Jvm.MethodName)) ∈ WG := WG_at 392 rfl rfl
theorem wg_319 : (Cond.code ({ cls := "LitreFractionsModel", name := "areTwo", desc := "(IIII)Z" } : Jvm.MethodName) prog_4_method_8_code (4 : Nat) (Option.some Jvm.ClassFile.FieldType.boolean)) ∈ WG := WG_at 393 rfl rfl
theorem wg_320 : (Cond.methodLink "LitreFractionsLaw" (52 : Nat) ({ cls := "LitreFractionsModel", name := "over", desc := "(II)I" } : Jvm.MethodName)) ∈ WG := WG_at 394 rfl rfl
theorem wg_321 : (Cond.instanceMethod ({ cls := "LitreFractionsModel", name := "over", desc := "(II)I" } : Jvm.MethodName)) ∈ WG := WG_at 395 rfl rfl
theorem wg_322 : (Cond.selects "LitreFractionsModel" ({ cls := "LitreFractionsModel", name := "over", desc := "(II)I" } : Jvm.MethodName) ({ cls := "LitreFractionsModel", name := "over", desc := "(II)I" } : Jvm.MethodName)) ∈ WG := WG_at 396 rfl rfl
theorem wg_323 : (Cond.code ({ cls := "LitreFractionsModel", name := "over", desc := "(II)I" } : Jvm.MethodName) prog_4_method_10_code (6 : Nat) (Option.some Jvm.ClassFile.FieldType.int)) ∈ WG := WG_at 397 rfl rfl
theorem wg_324 : (Cond.methodLink "LitreFractionsLaw" (57 : Nat) ({ cls := "LitreFractionsModel", name := "round", desc := "(IIJ)I" } : Jvm.MethodName)) ∈ WG := WG_at 398 rfl rfl
theorem wg_325 : (Cond.instanceMethod ({ cls := "LitreFractionsModel", name := "round", desc := "(IIJ)I" } : Jvm.MethodName)) ∈ WG := WG_at 399 rfl rfl
theorem wg_326 : (Cond.selects "LitreFractionsModel" ({ cls := "LitreFractionsModel", name := "round", desc := "(IIJ)I" } : Jvm.MethodName) ({ cls := "LitreFractionsModel", name := "round", desc := "(IIJ)I" } : Jvm.MethodName)) ∈ WG := WG_at 400 rfl rfl
theorem wg_327 : (Cond.code ({ cls := "LitreFractionsModel", name := "round", desc := "(IIJ)I" } : Jvm.MethodName) prog_4_method_12_code (11 : Nat) (Option.some Jvm.ClassFile.FieldType.int)) ∈ WG := WG_at 401 rfl rfl
theorem wg_328 : (Cond.constantLong "LitreFractionsModel" (68 : Nat) (1000000000 : Int64)) ∈ WG := WG_at 402 rfl rfl
theorem wg_329 : (Cond.methodLink "LitreFractionsModel" (70 : Nat) ({ cls := "LitreFractionsModel", name := "isUpper", desc := "(IJJJ)Z" } : Jvm.MethodName)) ∈ WG := WG_at 403 rfl rfl
theorem wg_330 : (Cond.static ({ cls := "LitreFractionsModel", name := "isUpper", desc := "(IJJJ)Z" } : Jvm.MethodName)) ∈ WG := WG_at 404 rfl rfl
theorem wg_331 : (Cond.code ({ cls := "LitreFractionsModel", name := "isUpper", desc := "(IJJJ)Z" } : Jvm.MethodName) prog_4_method_11_code (8 : Nat) (Option.some Jvm.ClassFile.FieldType.boolean)) ∈ WG := WG_at 405 rfl rfl
theorem wg_332 : (Cond.constantLong "LitreFractionsModel" (66 : Nat) (2 : Int64)) ∈ WG := WG_at 406 rfl rfl
theorem wg_333 : (Cond.methodLink "LitreFractionsLaw" (61 : Nat) ({ cls := "LitreFractionsModel", name := "order", desc := "(II)I" } : Jvm.MethodName)) ∈ WG := WG_at 407 rfl rfl
theorem wg_334 : (Cond.instanceMethod ({ cls := "LitreFractionsModel", name := "order", desc := "(II)I" } : Jvm.MethodName)) ∈ WG := WG_at 408 rfl rfl
theorem wg_335 : (Cond.selects "LitreFractionsModel" ({ cls := "LitreFractionsModel", name := "order", desc := "(II)I" } : Jvm.MethodName) ({ cls := "LitreFractionsModel", name := "order", desc := "(II)I" } : Jvm.MethodName)) ∈ WG := WG_at 409 rfl rfl
theorem wg_336 : (Cond.code ({ cls := "LitreFractionsModel", name := "order", desc := "(II)I" } : Jvm.MethodName) prog_4_method_13_code (5 : Nat) (Option.some Jvm.ClassFile.FieldType.int)) ∈ WG := WG_at 410 rfl rfl
theorem wg_337 : (Cond.methodLink "LitreFractionsLaw" (66 : Nat) ({ cls := "LitreFractionsModel", name := "row", desc := "(IJJJ)Z" } : Jvm.MethodName)) ∈ WG := WG_at 411 rfl rfl
theorem wg_338 : (Cond.instanceMethod ({ cls := "LitreFractionsModel", name := "row", desc := "(IJJJ)Z" } : Jvm.MethodName)) ∈ WG := WG_at 412 rfl rfl
theorem wg_339 : (Cond.selects "LitreFractionsModel" ({ cls := "LitreFractionsModel", name := "row", desc := "(IJJJ)Z" } : Jvm.MethodName) ({ cls := "LitreFractionsModel", name := "row", desc := "(IJJJ)Z" } : Jvm.MethodName)) ∈ WG := WG_at 413 rfl rfl
theorem wg_340 : (Cond.code ({ cls := "LitreFractionsModel", name := "row", desc := "(IJJJ)Z" } : Jvm.MethodName) prog_4_method_15_code (9 : Nat) (Option.some Jvm.ClassFile.FieldType.boolean)) ∈ WG := WG_at 414 rfl rfl
theorem wg_341 : (Cond.constantLong "LitreFractionsModel" (78 : Nat) (100 : Int64)) ∈ WG := WG_at 415 rfl rfl
theorem wg_342 : (Cond.methodLink "LitreFractionsModel" (80 : Nat) ({ cls := "LitreFractionsModel", name := "isNear", desc := "(J)Z" } : Jvm.MethodName)) ∈ WG := WG_at 416 rfl rfl
theorem wg_343 : (Cond.static ({ cls := "LitreFractionsModel", name := "isNear", desc := "(J)Z" } : Jvm.MethodName)) ∈ WG := WG_at 417 rfl rfl
theorem wg_344 : (Cond.code ({ cls := "LitreFractionsModel", name := "isNear", desc := "(J)Z" } : Jvm.MethodName) prog_4_method_14_code (2 : Nat) (Option.some Jvm.ClassFile.FieldType.boolean)) ∈ WG := WG_at 418 rfl rfl
theorem wg_345 : (Cond.constantLong "LitreFractionsModel" (74 : Nat) (-10000 : Int64)) ∈ WG := WG_at 419 rfl rfl
theorem wg_346 : (Cond.constantLong "LitreFractionsModel" (76 : Nat) (10000 : Int64)) ∈ WG := WG_at 420 rfl rfl
theorem wg_347 : (Cond.methodLink "LitreFractionsLaw" (70 : Nat) ({ cls := "LitreFractionsModel", name := "join", desc := "(II)I" } : Jvm.MethodName)) ∈ WG := WG_at 421 rfl rfl
theorem wg_348 : (Cond.instanceMethod ({ cls := "LitreFractionsModel", name := "join", desc := "(II)I" } : Jvm.MethodName)) ∈ WG := WG_at 422 rfl rfl
theorem wg_349 : (Cond.selects "LitreFractionsModel" ({ cls := "LitreFractionsModel", name := "join", desc := "(II)I" } : Jvm.MethodName) ({ cls := "LitreFractionsModel", name := "join", desc := "(II)I" } : Jvm.MethodName)) ∈ WG := WG_at 423 rfl rfl
theorem wg_350 : (Cond.code ({ cls := "LitreFractionsModel", name := "join", desc := "(II)I" } : Jvm.MethodName) prog_4_method_16_code (12 : Nat) (Option.some Jvm.ClassFile.FieldType.int)) ∈ WG := WG_at 424 rfl rfl
theorem wg_351 : (Cond.methodLink "LitreFractionsLaw" (75 : Nat) ({ cls := "LitreFractionsModel", name := "weight", desc := "(J)Z" } : Jvm.MethodName)) ∈ WG := WG_at 425 rfl rfl
theorem wg_352 : (Cond.instanceMethod ({ cls := "LitreFractionsModel", name := "weight", desc := "(J)Z" } : Jvm.MethodName)) ∈ WG := WG_at 426 rfl rfl
theorem wg_353 : (Cond.selects "LitreFractionsModel" ({ cls := "LitreFractionsModel", name := "weight", desc := "(J)Z" } : Jvm.MethodName) ({ cls := "LitreFractionsModel", name := "weight", desc := "(J)Z" } : Jvm.MethodName)) ∈ WG := WG_at 427 rfl rfl
theorem wg_354 : (Cond.code ({ cls := "LitreFractionsModel", name := "weight", desc := "(J)Z" } : Jvm.MethodName) prog_4_method_17_code (3 : Nat) (Option.some Jvm.ClassFile.FieldType.boolean)) ∈ WG := WG_at 428 rfl rfl
theorem wg_355 : (Cond.constantLong "LitreFractionsModel" (87 : Nat) (1000000 : Int64)) ∈ WG := WG_at 429 rfl rfl
theorem wg_356 : (Cond.methodLink "LitreFractionsLaw" (79 : Nat) ({ cls := "LitreFractionsModel", name := "share", desc := "(II)I" } : Jvm.MethodName)) ∈ WG := WG_at 430 rfl rfl
theorem wg_357 : (Cond.instanceMethod ({ cls := "LitreFractionsModel", name := "share", desc := "(II)I" } : Jvm.MethodName)) ∈ WG := WG_at 431 rfl rfl
theorem wg_358 : (Cond.selects "LitreFractionsModel" ({ cls := "LitreFractionsModel", name := "share", desc := "(II)I" } : Jvm.MethodName) ({ cls := "LitreFractionsModel", name := "share", desc := "(II)I" } : Jvm.MethodName)) ∈ WG := WG_at 432 rfl rfl
theorem wg_359 : (Cond.code ({ cls := "LitreFractionsModel", name := "share", desc := "(II)I" } : Jvm.MethodName) prog_4_method_18_code (17 : Nat) (Option.some Jvm.ClassFile.FieldType.int)) ∈ WG := WG_at 433 rfl rfl
theorem wg_360 : (Cond.constantLong "LitreFractionsModel" (89 : Nat) (1000 : Int64)) ∈ WG := WG_at 434 rfl rfl
theorem wg_361 : (Cond.methodLink "LitreFractionsLaw" (83 : Nat) ({ cls := "LitreFractionsModel", name := "digit", desc := "(III)I" } : Jvm.MethodName)) ∈ WG := WG_at 435 rfl rfl
theorem wg_362 : (Cond.instanceMethod ({ cls := "LitreFractionsModel", name := "digit", desc := "(III)I" } : Jvm.MethodName)) ∈ WG := WG_at 436 rfl rfl
theorem wg_363 : (Cond.selects "LitreFractionsModel" ({ cls := "LitreFractionsModel", name := "digit", desc := "(III)I" } : Jvm.MethodName) ({ cls := "LitreFractionsModel", name := "digit", desc := "(III)I" } : Jvm.MethodName)) ∈ WG := WG_at 437 rfl rfl
theorem wg_364 : (Cond.code ({ cls := "LitreFractionsModel", name := "digit", desc := "(III)I" } : Jvm.MethodName) prog_4_method_19_code (11 : Nat) (Option.some Jvm.ClassFile.FieldType.int)) ∈ WG := WG_at 438 rfl rfl
theorem wg_365 : (Cond.constantLong "LitreFractionsModel" (91 : Nat) (9 : Int64)) ∈ WG := WG_at 439 rfl rfl
theorem wg_366 : (Cond.constantLong "LitreFractionsModel" (93 : Nat) (10 : Int64)) ∈ WG := WG_at 440 rfl rfl
theorem wg_367 : (Cond.methodLink "LitreFractionsLaw" (88 : Nat) ({ cls := "LitreFractionsModel", name := "told", desc := "(II)J" } : Jvm.MethodName)) ∈ WG := WG_at 441 rfl rfl
theorem wg_368 : (Cond.instanceMethod ({ cls := "LitreFractionsModel", name := "told", desc := "(II)J" } : Jvm.MethodName)) ∈ WG := WG_at 442 rfl rfl
theorem wg_369 : (Cond.selects "LitreFractionsModel" ({ cls := "LitreFractionsModel", name := "told", desc := "(II)J" } : Jvm.MethodName) ({ cls := "LitreFractionsModel", name := "told", desc := "(II)J" } : Jvm.MethodName)) ∈ WG := WG_at 443 rfl rfl
theorem wg_370 : (Cond.code ({ cls := "LitreFractionsModel", name := "told", desc := "(II)J" } : Jvm.MethodName) prog_4_method_20_code (3 : Nat) (Option.some Jvm.ClassFile.FieldType.long)) ∈ WG := WG_at 444 rfl rfl
theorem wg_371 : (Cond.constantLong "LitreFractionsModel" (95 : Nat) (-9 : Int64)) ∈ WG := WG_at 445 rfl rfl
theorem wg_372 : (Cond.methodLink "LitreFractionsLaw" (92 : Nat) ({ cls := "LitreFractionsModel", name := "clear", desc := "()V" } : Jvm.MethodName)) ∈ WG := WG_at 446 rfl rfl
theorem wg_373 : (Cond.instanceMethod ({ cls := "LitreFractionsModel", name := "clear", desc := "()V" } : Jvm.MethodName)) ∈ WG := WG_at 447 rfl rfl
theorem wg_374 : (Cond.selects "LitreFractionsModel" ({ cls := "LitreFractionsModel", name := "clear", desc := "()V" } : Jvm.MethodName) ({ cls := "LitreFractionsModel", name := "clear", desc := "()V" } : Jvm.MethodName)) ∈ WG := WG_at 448 rfl rfl
theorem wg_375 : (Cond.code ({ cls := "LitreFractionsModel", name := "clear", desc := "()V" } : Jvm.MethodName) prog_4_method_21_code (2 : Nat) (Option.none : Option Jvm.ClassFile.FieldType)) ∈ WG := WG_at 449 rfl rfl
theorem wg_376 : (Cond.constantLong "LitreFractionsLaw" (29 : Nat) (4294967295 : Int64)) ∈ WG := WG_at 450 rfl rfl
theorem in_T : ∀ w ∈ u_ws R_T F_T 4, w ∈ WG := show ∀ w ∈ [(Cond.laysFinal "LitreFractions$Table" "LitreFractions$Table" "xs" "[J"), (Cond.laysFinal "LitreFractions$Table" "LitreFractions$Table" "ys" "[J"), (Cond.lays "LitreFractions$Table" "LitreFractions$Table" "below" "J"), (Cond.lays "LitreFractions$Table" "LitreFractions$Table" "count" "I")], w ∈ WG from List.forall_mem_cons.mpr ⟨wg_40, List.forall_mem_cons.mpr ⟨wg_41, List.forall_mem_cons.mpr ⟨wg_42, List.forall_mem_cons.mpr ⟨wg_43, fun _ h => absurd h List.not_mem_nil⟩⟩⟩⟩
theorem in_X : ∀ w ∈ u_ws R_X F_X 7, w ∈ WG := show ∀ w ∈ [(Cond.laysFinal "LitreFractions" "LitreFractions" "aboves" "[J"), (Cond.laysFinal "LitreFractions" "LitreFractions" "belows" "[J"), (Cond.laysFinal "LitreFractions" "LitreFractions" "units" "[I"), (Cond.lays "LitreFractions" "LitreFractions" "amountCount" "I"), (Cond.laysFinal "LitreFractions" "LitreFractions" "weights" "[J"), (Cond.lays "LitreFractions" "LitreFractions" "weightCount" "I"), (Cond.laysFinal "LitreFractions" "LitreFractions" "tables" "[LLitreFractions$Table;")], w ∈ WG from List.forall_mem_cons.mpr ⟨wg_53, List.forall_mem_cons.mpr ⟨wg_54, List.forall_mem_cons.mpr ⟨wg_55, List.forall_mem_cons.mpr ⟨wg_56, List.forall_mem_cons.mpr ⟨wg_57, List.forall_mem_cons.mpr ⟨wg_58, List.forall_mem_cons.mpr ⟨wg_59, fun _ h => absurd h List.not_mem_nil⟩⟩⟩⟩⟩⟩⟩
theorem in_M : ∀ w ∈ u_ws R_M F_M 11, w ∈ WG := show ∀ w ∈ [(Cond.lays "LitreFractionsModel" "LitreFractionsModel" "code" "I"), (Cond.lays "LitreFractionsModel" "LitreFractionsModel" "amounts" "I"), (Cond.laysFinal "LitreFractionsModel" "LitreFractionsModel" "up" "[J"), (Cond.laysFinal "LitreFractionsModel" "LitreFractionsModel" "down" "[J"), (Cond.laysFinal "LitreFractionsModel" "LitreFractionsModel" "units" "[I"), (Cond.laysFinal "LitreFractionsModel" "LitreFractionsModel" "rows" "[I"), (Cond.laysFinal "LitreFractionsModel" "LitreFractionsModel" "xs" "[J"), (Cond.laysFinal "LitreFractionsModel" "LitreFractionsModel" "ys" "[J"), (Cond.laysFinal "LitreFractionsModel" "LitreFractionsModel" "belows" "[J"), (Cond.lays "LitreFractionsModel" "LitreFractionsModel" "weights" "I"), (Cond.laysFinal "LitreFractionsModel" "LitreFractionsModel" "weight" "[J")], w ∈ WG from List.forall_mem_cons.mpr ⟨wg_277, List.forall_mem_cons.mpr ⟨wg_278, List.forall_mem_cons.mpr ⟨wg_279, List.forall_mem_cons.mpr ⟨wg_280, List.forall_mem_cons.mpr ⟨wg_281, List.forall_mem_cons.mpr ⟨wg_282, List.forall_mem_cons.mpr ⟨wg_283, List.forall_mem_cons.mpr ⟨wg_284, List.forall_mem_cons.mpr ⟨wg_285, List.forall_mem_cons.mpr ⟨wg_286, List.forall_mem_cons.mpr ⟨wg_287, fun _ h => absurd h List.not_mem_nil⟩⟩⟩⟩⟩⟩⟩⟩⟩⟩⟩
abbrev c_X_init : ByteArray := prog_1_method_1_code
abbrev y_X_init : MethodName := ⟨"LitreFractions", "<init>", "()V"⟩
abbrev w_X_init : List Cond := .code y_X_init c_X_init 2 (Option.none : Option Jvm.ClassFile.FieldType) :: WG
abbrev c_T_init : ByteArray := prog_2_method_1_code
abbrev y_T_init : MethodName := ⟨"LitreFractions$Table", "<init>", "()V"⟩
abbrev w_T_init : List Cond := .code y_T_init c_T_init 1 (Option.none : Option Jvm.ClassFile.FieldType) :: WG
abbrev c_X_add : ByteArray := prog_1_method_3_code
abbrev y_X_add : MethodName := ⟨"LitreFractions", "add", "(II)I"⟩
abbrev w_X_add : List Cond := .code y_X_add c_X_add 3 (Option.some Jvm.ClassFile.FieldType.int) :: WG
abbrev c_X_isAmount : ByteArray := prog_1_method_15_code
abbrev y_X_isAmount : MethodName := ⟨"LitreFractions", "isAmount", "(I)Z"⟩
abbrev w_X_isAmount : List Cond := .code y_X_isAmount c_X_isAmount 2 (Option.some Jvm.ClassFile.FieldType.boolean) :: WG
abbrev c_X_keep : ByteArray := prog_1_method_18_code
abbrev y_X_keep : MethodName := ⟨"LitreFractions", "keep", "(JJI)I"⟩
abbrev w_X_keep : List Cond := .code y_X_keep c_X_keep 14 (Option.some Jvm.ClassFile.FieldType.int) :: WG
abbrev c_X_commonDivisor : ByteArray := prog_1_method_19_code
abbrev y_X_commonDivisor : MethodName := ⟨"LitreFractions", "commonDivisor", "(JJ)J"⟩
abbrev w_X_commonDivisor : List Cond := .code y_X_commonDivisor c_X_commonDivisor 11 (Option.some Jvm.ClassFile.FieldType.long) :: WG
abbrev c_JM_abs : ByteArray := prog_9_method_61_code
abbrev y_JM_abs : MethodName := ⟨"java/lang/Math", "abs", "(J)J"⟩
abbrev w_JM_abs : List Cond := .code y_JM_abs c_JM_abs 2 (Option.some Jvm.ClassFile.FieldType.long) :: WG
abbrev c_X_times : ByteArray := prog_1_method_4_code
abbrev y_X_times : MethodName := ⟨"LitreFractions", "times", "(II)I"⟩
abbrev w_X_times : List Cond := .code y_X_times c_X_times 4 (Option.some Jvm.ClassFile.FieldType.int) :: WG
abbrev c_X_unitOfProduct : ByteArray := prog_1_method_22_code
abbrev y_X_unitOfProduct : MethodName := ⟨"LitreFractions", "unitOfProduct", "(II)I"⟩
abbrev w_X_unitOfProduct : List Cond := .code y_X_unitOfProduct c_X_unitOfProduct 2 (Option.some Jvm.ClassFile.FieldType.int) :: WG
abbrev c_X_isShareOf : ByteArray := prog_1_method_24_code
abbrev y_X_isShareOf : MethodName := ⟨"LitreFractions", "isShareOf", "(II)Z"⟩
abbrev w_X_isShareOf : List Cond := .code y_X_isShareOf c_X_isShareOf 2 (Option.some Jvm.ClassFile.FieldType.boolean) :: WG
abbrev c_X_round : ByteArray := prog_1_method_6_code
abbrev y_X_round : MethodName := ⟨"LitreFractions", "round", "(IIJ)I"⟩
abbrev w_X_round : List Cond := .code y_X_round c_X_round 13 (Option.some Jvm.ClassFile.FieldType.int) :: WG
abbrev c_X_quotientDown : ByteArray := prog_1_method_20_code
abbrev y_X_quotientDown : MethodName := ⟨"LitreFractions", "quotientDown", "(JJ)J"⟩
abbrev w_X_quotientDown : List Cond := .code y_X_quotientDown c_X_quotientDown 4 (Option.some Jvm.ClassFile.FieldType.long) :: WG
abbrev c_JM_floorDiv : ByteArray := prog_9_method_49_code
abbrev y_JM_floorDiv : MethodName := ⟨"java/lang/Math", "floorDiv", "(JJ)J"⟩
abbrev w_JM_floorDiv : List Cond := .code y_JM_floorDiv c_JM_floorDiv 6 (Option.some Jvm.ClassFile.FieldType.long) :: WG
abbrev c_X_restOf : ByteArray := prog_1_method_21_code
abbrev y_X_restOf : MethodName := ⟨"LitreFractions", "restOf", "(JJ)J"⟩
abbrev w_X_restOf : List Cond := .code y_X_restOf c_X_restOf 4 (Option.some Jvm.ClassFile.FieldType.long) :: WG
abbrev c_JM_floorMod : ByteArray := prog_9_method_52_code
abbrev y_JM_floorMod : MethodName := ⟨"java/lang/Math", "floorMod", "(JJ)J"⟩
abbrev w_JM_floorMod : List Cond := .code y_JM_floorMod c_JM_floorMod 6 (Option.some Jvm.ClassFile.FieldType.long) :: WG
abbrev c_X_goesUp : ByteArray := prog_1_method_25_code
abbrev y_X_goesUp : MethodName := ⟨"LitreFractions", "goesUp", "(IJJJ)Z"⟩
abbrev w_X_goesUp : List Cond := .code y_X_goesUp c_X_goesUp 8 (Option.some Jvm.ClassFile.FieldType.boolean) :: WG
abbrev c_JL_compare : ByteArray := prog_8_method_42_code
abbrev y_JL_compare : MethodName := ⟨"java/lang/Long", "compare", "(JJ)I"⟩
abbrev w_JL_compare : List Cond := .code y_JL_compare c_JL_compare 4 (Option.some Jvm.ClassFile.FieldType.int) :: WG
abbrev c_X_order : ByteArray := prog_1_method_7_code
abbrev y_X_order : MethodName := ⟨"LitreFractions", "order", "(II)I"⟩
abbrev w_X_order : List Cond := .code y_X_order c_X_order 7 (Option.some Jvm.ClassFile.FieldType.int) :: WG
abbrev c_X_row : ByteArray := prog_1_method_8_code
abbrev y_X_row : MethodName := ⟨"LitreFractions", "row", "(IJJJ)Z"⟩
abbrev w_X_row : List Cond := .code y_X_row c_X_row 9 (Option.some Jvm.ClassFile.FieldType.boolean) :: WG
abbrev c_X_tableAt : ByteArray := prog_1_method_16_code
abbrev y_X_tableAt : MethodName := ⟨"LitreFractions", "tableAt", "(I)LLitreFractions$Table;"⟩
abbrev w_X_tableAt : List Cond := .code y_X_tableAt c_X_tableAt 2 (Option.some (Jvm.ClassFile.FieldType.object "LitreFractions$Table")) :: WG
abbrev c_T_takes : ByteArray := prog_2_method_2_code
abbrev y_T_takes : MethodName := ⟨"LitreFractions$Table", "takes", "(JJJ)Z"⟩
abbrev w_T_takes : List Cond := .code y_T_takes c_T_takes 7 (Option.some Jvm.ClassFile.FieldType.boolean) :: WG
abbrev c_T_isInside : ByteArray := prog_2_method_3_code
abbrev y_T_isInside : MethodName := ⟨"LitreFractions$Table", "isInside", "(J)Z"⟩
abbrev w_T_isInside : List Cond := .code y_T_isInside c_T_isInside 2 (Option.some Jvm.ClassFile.FieldType.boolean) :: WG
abbrev c_T_append : ByteArray := prog_2_method_4_code
abbrev y_T_append : MethodName := ⟨"LitreFractions$Table", "append", "(JJJ)V"⟩
abbrev w_T_append : List Cond := .code y_T_append c_T_append 7 (Option.none : Option Jvm.ClassFile.FieldType) :: WG
abbrev c_X_join : ByteArray := prog_1_method_9_code
abbrev y_X_join : MethodName := ⟨"LitreFractions", "join", "(II)I"⟩
abbrev w_X_join : List Cond := .code y_X_join c_X_join 5 (Option.some Jvm.ClassFile.FieldType.int) :: WG
abbrev c_T_firstNotBefore : ByteArray := prog_2_method_5_code
abbrev y_T_firstNotBefore : MethodName := ⟨"LitreFractions$Table", "firstNotBefore", "(JJ)I"⟩
abbrev w_T_firstNotBefore : List Cond := .code y_T_firstNotBefore c_T_firstNotBefore 8 (Option.some Jvm.ClassFile.FieldType.int) :: WG
abbrev c_X_keepBetween : ByteArray := prog_1_method_26_code
abbrev y_X_keepBetween : MethodName := ⟨"LitreFractions", "keepBetween", "(LLitreFractions$Table;II)I"⟩
abbrev w_X_keepBetween : List Cond := .code y_X_keepBetween c_X_keepBetween 12 (Option.some Jvm.ClassFile.FieldType.int) :: WG
abbrev c_X_weight : ByteArray := prog_1_method_10_code
abbrev y_X_weight : MethodName := ⟨"LitreFractions", "weight", "(J)Z"⟩
abbrev w_X_weight : List Cond := .code y_X_weight c_X_weight 3 (Option.some Jvm.ClassFile.FieldType.boolean) :: WG
abbrev c_X_share : ByteArray := prog_1_method_11_code
abbrev y_X_share : MethodName := ⟨"LitreFractions", "share", "(II)I"⟩
abbrev w_X_share : List Cond := .code y_X_share c_X_share 11 (Option.some Jvm.ClassFile.FieldType.int) :: WG
abbrev c_X_sumOfWeights : ByteArray := prog_1_method_27_code
abbrev y_X_sumOfWeights : MethodName := ⟨"LitreFractions", "sumOfWeights", "()J"⟩
abbrev w_X_sumOfWeights : List Cond := .code y_X_sumOfWeights c_X_sumOfWeights 4 (Option.some Jvm.ClassFile.FieldType.long) :: WG
abbrev c_X_thousandthsOf : ByteArray := prog_1_method_28_code
abbrev y_X_thousandthsOf : MethodName := ⟨"LitreFractions", "thousandthsOf", "(IJJ)J"⟩
abbrev w_X_thousandthsOf : List Cond := .code y_X_thousandthsOf c_X_thousandthsOf 18 (Option.some Jvm.ClassFile.FieldType.long) :: WG
abbrev c_X_told : ByteArray := prog_1_method_13_code
abbrev y_X_told : MethodName := ⟨"LitreFractions", "told", "(II)J"⟩
abbrev w_X_told : List Cond := .code y_X_told c_X_told 4 (Option.some Jvm.ClassFile.FieldType.long) :: WG
abbrev c_X_clear : ByteArray := prog_1_method_14_code
abbrev y_X_clear : MethodName := ⟨"LitreFractions", "clear", "()V"⟩
abbrev w_X_clear : List Cond := .code y_X_clear c_X_clear 3 (Option.none : Option Jvm.ClassFile.FieldType) :: WG
abbrev c_L_value : ByteArray := method_3_code
abbrev y_L_value : MethodName := ⟨"LitreFractionsLaw", "value", "(LLitreFractions;JJI[J)I"⟩
abbrev c_X_value : ByteArray := prog_1_method_2_code
abbrev y_X_value : MethodName := ⟨"LitreFractions", "value", "(JJI)I"⟩
abbrev w_X_value : List Cond := .code y_X_value c_X_value 6 (Option.some Jvm.ClassFile.FieldType.int) :: WG
abbrev c_X_isTooFar : ByteArray := prog_1_method_17_code
abbrev y_X_isTooFar : MethodName := ⟨"LitreFractions", "isTooFar", "(J)Z"⟩
abbrev w_X_isTooFar : List Cond := .code y_X_isTooFar c_X_isTooFar 2 (Option.some Jvm.ClassFile.FieldType.boolean) :: WG
abbrev c_L_over : ByteArray := method_4_code
abbrev y_L_over : MethodName := ⟨"LitreFractionsLaw", "over", "(LLitreFractions;II[J)I"⟩
abbrev c_X_over : ByteArray := prog_1_method_5_code
abbrev y_X_over : MethodName := ⟨"LitreFractions", "over", "(II)I"⟩
abbrev w_X_over : List Cond := .code y_X_over c_X_over 4 (Option.some Jvm.ClassFile.FieldType.int) :: WG
abbrev c_X_unitOfQuotient : ByteArray := prog_1_method_23_code
abbrev y_X_unitOfQuotient : MethodName := ⟨"LitreFractions", "unitOfQuotient", "(II)I"⟩
abbrev w_X_unitOfQuotient : List Cond := .code y_X_unitOfQuotient c_X_unitOfQuotient 2 (Option.some Jvm.ClassFile.FieldType.int) :: WG
abbrev c_L_digit : ByteArray := method_5_code
abbrev y_L_digit : MethodName := ⟨"LitreFractionsLaw", "digit", "(LLitreFractions;III[J)I"⟩
abbrev c_X_digit : ByteArray := prog_1_method_12_code
abbrev y_X_digit : MethodName := ⟨"LitreFractions", "digit", "(III)I"⟩
abbrev w_X_digit : List Cond := .code y_X_digit c_X_digit 9 (Option.some Jvm.ClassFile.FieldType.int) :: WG
abbrev c_X_digitBefore : ByteArray := prog_1_method_29_code
abbrev y_X_digitBefore : MethodName := ⟨"LitreFractions", "digitBefore", "(JI)I"⟩
abbrev w_X_digitBefore : List Cond := .code y_X_digitBefore c_X_digitBefore 6 (Option.some Jvm.ClassFile.FieldType.int) :: WG
abbrev c_X_digitBehind : ByteArray := prog_1_method_30_code
abbrev y_X_digitBehind : MethodName := ⟨"LitreFractions", "digitBehind", "(JJI)I"⟩
abbrev w_X_digitBehind : List Cond := .code y_X_digitBehind c_X_digitBehind 8 (Option.some Jvm.ClassFile.FieldType.int) :: WG
abbrev c_M_init : ByteArray := prog_4_method_1_code
abbrev y_M_init : MethodName := ⟨"LitreFractionsModel", "<init>", "()V"⟩
abbrev w_M_init : List Cond := .code y_M_init c_M_init 1 (Option.none : Option Jvm.ClassFile.FieldType) :: WG
abbrev c_M_thrown : ByteArray := prog_4_method_2_code
abbrev y_M_thrown : MethodName := ⟨"LitreFractionsModel", "thrown", "()I"⟩
abbrev w_M_thrown : List Cond := .code y_M_thrown c_M_thrown 1 (Option.some Jvm.ClassFile.FieldType.int) :: WG
abbrev c_M_value : ByteArray := prog_4_method_6_code
abbrev y_M_value : MethodName := ⟨"LitreFractionsModel", "value", "(JJI)I"⟩
abbrev w_M_value : List Cond := .code y_M_value c_M_value 6 (Option.some Jvm.ClassFile.FieldType.int) :: WG
abbrev c_M_make : ByteArray := prog_4_method_5_code
abbrev y_M_make : MethodName := ⟨"LitreFractionsModel", "make", "(JJI)I"⟩
abbrev w_M_make : List Cond := .code y_M_make c_M_make 12 (Option.some Jvm.ClassFile.FieldType.int) :: WG
abbrev c_M_common : ByteArray := prog_4_method_4_code
abbrev y_M_common : MethodName := ⟨"LitreFractionsModel", "common", "(JJ)J"⟩
abbrev w_M_common : List Cond := .code y_M_common c_M_common 10 (Option.some Jvm.ClassFile.FieldType.long) :: WG
abbrev c_M_add : ByteArray := prog_4_method_7_code
abbrev y_M_add : MethodName := ⟨"LitreFractionsModel", "add", "(II)I"⟩
abbrev w_M_add : List Cond := .code y_M_add c_M_add 3 (Option.some Jvm.ClassFile.FieldType.int) :: WG
abbrev c_M_isAmount : ByteArray := prog_4_method_3_code
abbrev y_M_isAmount : MethodName := ⟨"LitreFractionsModel", "isAmount", "(I)Z"⟩
abbrev w_M_isAmount : List Cond := .code y_M_isAmount c_M_isAmount 2 (Option.some Jvm.ClassFile.FieldType.boolean) :: WG
abbrev c_M_times : ByteArray := prog_4_method_9_code
abbrev y_M_times : MethodName := ⟨"LitreFractionsModel", "times", "(II)I"⟩
abbrev w_M_times : List Cond := .code y_M_times c_M_times 6 (Option.some Jvm.ClassFile.FieldType.int) :: WG
abbrev c_M_areTwo : ByteArray := prog_4_method_8_code
abbrev y_M_areTwo : MethodName := ⟨"LitreFractionsModel", "areTwo", "(IIII)Z"⟩
abbrev w_M_areTwo : List Cond := .code y_M_areTwo c_M_areTwo 4 (Option.some Jvm.ClassFile.FieldType.boolean) :: WG
abbrev c_M_over : ByteArray := prog_4_method_10_code
abbrev y_M_over : MethodName := ⟨"LitreFractionsModel", "over", "(II)I"⟩
abbrev w_M_over : List Cond := .code y_M_over c_M_over 6 (Option.some Jvm.ClassFile.FieldType.int) :: WG
abbrev c_M_round : ByteArray := prog_4_method_12_code
abbrev y_M_round : MethodName := ⟨"LitreFractionsModel", "round", "(IIJ)I"⟩
abbrev w_M_round : List Cond := .code y_M_round c_M_round 11 (Option.some Jvm.ClassFile.FieldType.int) :: WG
abbrev c_M_isUpper : ByteArray := prog_4_method_11_code
abbrev y_M_isUpper : MethodName := ⟨"LitreFractionsModel", "isUpper", "(IJJJ)Z"⟩
abbrev w_M_isUpper : List Cond := .code y_M_isUpper c_M_isUpper 8 (Option.some Jvm.ClassFile.FieldType.boolean) :: WG
abbrev c_M_order : ByteArray := prog_4_method_13_code
abbrev y_M_order : MethodName := ⟨"LitreFractionsModel", "order", "(II)I"⟩
abbrev w_M_order : List Cond := .code y_M_order c_M_order 5 (Option.some Jvm.ClassFile.FieldType.int) :: WG
abbrev c_M_row : ByteArray := prog_4_method_15_code
abbrev y_M_row : MethodName := ⟨"LitreFractionsModel", "row", "(IJJJ)Z"⟩
abbrev w_M_row : List Cond := .code y_M_row c_M_row 9 (Option.some Jvm.ClassFile.FieldType.boolean) :: WG
abbrev c_M_isNear : ByteArray := prog_4_method_14_code
abbrev y_M_isNear : MethodName := ⟨"LitreFractionsModel", "isNear", "(J)Z"⟩
abbrev w_M_isNear : List Cond := .code y_M_isNear c_M_isNear 2 (Option.some Jvm.ClassFile.FieldType.boolean) :: WG
abbrev c_M_join : ByteArray := prog_4_method_16_code
abbrev y_M_join : MethodName := ⟨"LitreFractionsModel", "join", "(II)I"⟩
abbrev w_M_join : List Cond := .code y_M_join c_M_join 12 (Option.some Jvm.ClassFile.FieldType.int) :: WG
abbrev c_M_weight : ByteArray := prog_4_method_17_code
abbrev y_M_weight : MethodName := ⟨"LitreFractionsModel", "weight", "(J)Z"⟩
abbrev w_M_weight : List Cond := .code y_M_weight c_M_weight 3 (Option.some Jvm.ClassFile.FieldType.boolean) :: WG
abbrev c_M_share : ByteArray := prog_4_method_18_code
abbrev y_M_share : MethodName := ⟨"LitreFractionsModel", "share", "(II)I"⟩
abbrev w_M_share : List Cond := .code y_M_share c_M_share 17 (Option.some Jvm.ClassFile.FieldType.int) :: WG
abbrev c_M_digit : ByteArray := prog_4_method_19_code
abbrev y_M_digit : MethodName := ⟨"LitreFractionsModel", "digit", "(III)I"⟩
abbrev w_M_digit : List Cond := .code y_M_digit c_M_digit 11 (Option.some Jvm.ClassFile.FieldType.int) :: WG
abbrev c_M_told : ByteArray := prog_4_method_20_code
abbrev y_M_told : MethodName := ⟨"LitreFractionsModel", "told", "(II)J"⟩
abbrev w_M_told : List Cond := .code y_M_told c_M_told 3 (Option.some Jvm.ClassFile.FieldType.long) :: WG
abbrev c_M_clear : ByteArray := prog_4_method_21_code
abbrev y_M_clear : MethodName := ⟨"LitreFractionsModel", "clear", "()V"⟩
abbrev w_M_clear : List Cond := .code y_M_clear c_M_clear 2 (Option.none : Option Jvm.ClassFile.FieldType) :: WG
end
section
theorem d_X_init_0 : decode c_X_init 0 = .ok (.aload_n 0, 1) := by decide +kernel
theorem d_X_init_1 : decode c_X_init 1 = .ok (.invokespecial 1, 3) := by decide +kernel
theorem d_X_init_4 : decode c_X_init 4 = .ok (.aload_n 0, 1) := by decide +kernel
theorem d_X_init_5 : decode c_X_init 5 = .ok (.sipush 500, 3) := by decide +kernel
theorem d_X_init_8 : decode c_X_init 8 = .ok (.newarray .long, 2) := by decide +kernel
theorem d_X_init_10 : decode c_X_init 10 = .ok (.putfield 9, 3) := by decide +kernel
theorem d_X_init_13 : decode c_X_init 13 = .ok (.aload_n 0, 1) := by decide +kernel
theorem d_X_init_14 : decode c_X_init 14 = .ok (.sipush 500, 3) := by decide +kernel
theorem d_X_init_17 : decode c_X_init 17 = .ok (.newarray .long, 2) := by decide +kernel
theorem d_X_init_19 : decode c_X_init 19 = .ok (.putfield 13, 3) := by decide +kernel
theorem d_X_init_22 : decode c_X_init 22 = .ok (.aload_n 0, 1) := by decide +kernel
theorem d_X_init_23 : decode c_X_init 23 = .ok (.sipush 500, 3) := by decide +kernel
theorem d_X_init_26 : decode c_X_init 26 = .ok (.newarray .int, 2) := by decide +kernel
theorem d_X_init_28 : decode c_X_init 28 = .ok (.putfield 16, 3) := by decide +kernel
theorem d_X_init_31 : decode c_X_init 31 = .ok (.aload_n 0, 1) := by decide +kernel
theorem d_X_init_32 : decode c_X_init 32 = .ok (.bipush 16, 2) := by decide +kernel
theorem d_X_init_34 : decode c_X_init 34 = .ok (.newarray .long, 2) := by decide +kernel
theorem d_X_init_36 : decode c_X_init 36 = .ok (.putfield 20, 3) := by decide +kernel
theorem d_X_init_39 : decode c_X_init 39 = .ok (.aload_n 0, 1) := by decide +kernel
theorem d_X_init_40 : decode c_X_init 40 = .ok (.iconst 4, 1) := by decide +kernel
theorem d_X_init_41 : decode c_X_init 41 = .ok (.anewarray 23, 3) := by decide +kernel
theorem d_X_init_44 : decode c_X_init 44 = .ok (.putfield 25, 3) := by decide +kernel
theorem d_X_init_47 : decode c_X_init 47 = .ok (.iconst 0, 1) := by decide +kernel
theorem d_X_init_48 : decode c_X_init 48 = .ok (.istore_n 1, 1) := by decide +kernel
theorem d_X_init_49 : decode c_X_init 49 = .ok (.iload_n 1, 1) := by decide +kernel
theorem d_X_init_50 : decode c_X_init 50 = .ok (.iconst 4, 1) := by decide +kernel
theorem d_X_init_51 : decode c_X_init 51 = .ok (.if_icmp .ge 22, 3) := by decide +kernel
theorem d_X_init_54 : decode c_X_init 54 = .ok (.aload_n 0, 1) := by decide +kernel
theorem d_X_init_55 : decode c_X_init 55 = .ok (.getfield 25, 3) := by decide +kernel
theorem d_X_init_58 : decode c_X_init 58 = .ok (.iload_n 1, 1) := by decide +kernel
theorem d_X_init_59 : decode c_X_init 59 = .ok (.new 23, 3) := by decide +kernel
theorem d_X_init_62 : decode c_X_init 62 = .ok (.dup, 1) := by decide +kernel
theorem d_X_init_63 : decode c_X_init 63 = .ok (.invokespecial 29, 3) := by decide +kernel
theorem d_X_init_66 : decode c_X_init 66 = .ok (.aastore, 1) := by decide +kernel
theorem d_X_init_67 : decode c_X_init 67 = .ok (.iinc 1 1, 3) := by decide +kernel
theorem d_X_init_70 : decode c_X_init 70 = .ok (.goto (-21), 3) := by decide +kernel
theorem d_X_init_73 : decode c_X_init 73 = .ok (.return_, 1) := by decide +kernel
theorem d_X_value_0 : decode c_X_value 0 = .ok (.lload_n 3, 1) := by decide +kernel
theorem d_X_value_1 : decode c_X_value 1 = .ok (.lconst 0, 1) := by decide +kernel
theorem d_X_value_2 : decode c_X_value 2 = .ok (.lcmp, 1) := by decide +kernel
theorem d_X_value_3 : decode c_X_value 3 = .ok (.ifCond .ne 13, 3) := by decide +kernel
theorem d_X_value_6 : decode c_X_value 6 = .ok (.new 30, 3) := by decide +kernel
theorem d_X_value_9 : decode c_X_value 9 = .ok (.dup, 1) := by decide +kernel
theorem d_X_value_10 : decode c_X_value 10 = .ok (.ldc 32, 2) := by decide +kernel
theorem d_X_value_12 : decode c_X_value 12 = .ok (.invokespecial 34, 3) := by decide +kernel
theorem d_X_value_15 : decode c_X_value 15 = .ok (.athrow, 1) := by decide +kernel
theorem d_X_value_16 : decode c_X_value 16 = .ok (.iload 5, 2) := by decide +kernel
theorem d_X_value_18 : decode c_X_value 18 = .ok (.ifCond .lt 23, 3) := by decide +kernel
theorem d_X_value_21 : decode c_X_value 21 = .ok (.iload 5, 2) := by decide +kernel
theorem d_X_value_23 : decode c_X_value 23 = .ok (.iconst 4, 1) := by decide +kernel
theorem d_X_value_24 : decode c_X_value 24 = .ok (.if_icmp .gt 17, 3) := by decide +kernel
theorem d_X_value_27 : decode c_X_value 27 = .ok (.lload_n 1, 1) := by decide +kernel
theorem d_X_value_28 : decode c_X_value 28 = .ok (.invokestatic 37, 3) := by decide +kernel
theorem d_X_value_31 : decode c_X_value 31 = .ok (.ifCond .ne 10, 3) := by decide +kernel
theorem d_X_value_34 : decode c_X_value 34 = .ok (.lload_n 3, 1) := by decide +kernel
theorem d_X_value_35 : decode c_X_value 35 = .ok (.invokestatic 37, 3) := by decide +kernel
theorem d_X_value_38 : decode c_X_value 38 = .ok (.ifCond .eq 6, 3) := by decide +kernel
theorem d_X_value_41 : decode c_X_value 41 = .ok (.bipush (-3), 2) := by decide +kernel
theorem d_X_value_43 : decode c_X_value 43 = .ok (.ireturn, 1) := by decide +kernel
theorem d_X_value_44 : decode c_X_value 44 = .ok (.aload_n 0, 1) := by decide +kernel
theorem d_X_value_45 : decode c_X_value 45 = .ok (.lload_n 1, 1) := by decide +kernel
theorem d_X_value_46 : decode c_X_value 46 = .ok (.lload_n 3, 1) := by decide +kernel
theorem d_X_value_47 : decode c_X_value 47 = .ok (.iload 5, 2) := by decide +kernel
theorem d_X_value_49 : decode c_X_value 49 = .ok (.invokevirtual 41, 3) := by decide +kernel
theorem d_X_value_52 : decode c_X_value 52 = .ok (.ireturn, 1) := by decide +kernel
theorem d_X_add_0 : decode c_X_add 0 = .ok (.aload_n 0, 1) := by decide +kernel
theorem d_X_add_1 : decode c_X_add 1 = .ok (.iload_n 1, 1) := by decide +kernel
theorem d_X_add_2 : decode c_X_add 2 = .ok (.invokevirtual 45, 3) := by decide +kernel
theorem d_X_add_5 : decode c_X_add 5 = .ok (.ifCond .eq 11, 3) := by decide +kernel
theorem d_X_add_8 : decode c_X_add 8 = .ok (.aload_n 0, 1) := by decide +kernel
theorem d_X_add_9 : decode c_X_add 9 = .ok (.iload_n 2, 1) := by decide +kernel
theorem d_X_add_10 : decode c_X_add 10 = .ok (.invokevirtual 45, 3) := by decide +kernel
theorem d_X_add_13 : decode c_X_add 13 = .ok (.ifCond .ne 6, 3) := by decide +kernel
theorem d_X_add_16 : decode c_X_add 16 = .ok (.bipush (-3), 2) := by decide +kernel
theorem d_X_add_18 : decode c_X_add 18 = .ok (.ireturn, 1) := by decide +kernel
theorem d_X_add_19 : decode c_X_add 19 = .ok (.aload_n 0, 1) := by decide +kernel
theorem d_X_add_20 : decode c_X_add 20 = .ok (.getfield 16, 3) := by decide +kernel
theorem d_X_add_23 : decode c_X_add 23 = .ok (.iload_n 1, 1) := by decide +kernel
theorem d_X_add_24 : decode c_X_add 24 = .ok (.iaload, 1) := by decide +kernel
theorem d_X_add_25 : decode c_X_add 25 = .ok (.aload_n 0, 1) := by decide +kernel
theorem d_X_add_26 : decode c_X_add 26 = .ok (.getfield 16, 3) := by decide +kernel
theorem d_X_add_29 : decode c_X_add 29 = .ok (.iload_n 2, 1) := by decide +kernel
theorem d_X_add_30 : decode c_X_add 30 = .ok (.iaload, 1) := by decide +kernel
theorem d_X_add_31 : decode c_X_add 31 = .ok (.if_icmp .eq 5, 3) := by decide +kernel
theorem d_X_add_34 : decode c_X_add 34 = .ok (.iconst (-1), 1) := by decide +kernel
theorem d_X_add_35 : decode c_X_add 35 = .ok (.ireturn, 1) := by decide +kernel
theorem d_X_add_36 : decode c_X_add 36 = .ok (.aload_n 0, 1) := by decide +kernel
theorem d_X_add_37 : decode c_X_add 37 = .ok (.aload_n 0, 1) := by decide +kernel
theorem d_X_add_38 : decode c_X_add 38 = .ok (.getfield 9, 3) := by decide +kernel
theorem d_X_add_41 : decode c_X_add 41 = .ok (.iload_n 1, 1) := by decide +kernel
theorem d_X_add_42 : decode c_X_add 42 = .ok (.laload, 1) := by decide +kernel
theorem d_X_add_43 : decode c_X_add 43 = .ok (.aload_n 0, 1) := by decide +kernel
theorem d_X_add_44 : decode c_X_add 44 = .ok (.getfield 13, 3) := by decide +kernel
theorem d_X_add_47 : decode c_X_add 47 = .ok (.iload_n 2, 1) := by decide +kernel
theorem d_X_add_48 : decode c_X_add 48 = .ok (.laload, 1) := by decide +kernel
theorem d_X_add_49 : decode c_X_add 49 = .ok (.lmul, 1) := by decide +kernel
theorem d_X_add_50 : decode c_X_add 50 = .ok (.aload_n 0, 1) := by decide +kernel
theorem d_X_add_51 : decode c_X_add 51 = .ok (.getfield 9, 3) := by decide +kernel
theorem d_X_add_54 : decode c_X_add 54 = .ok (.iload_n 2, 1) := by decide +kernel
theorem d_X_add_55 : decode c_X_add 55 = .ok (.laload, 1) := by decide +kernel
theorem d_X_add_56 : decode c_X_add 56 = .ok (.aload_n 0, 1) := by decide +kernel
theorem d_X_add_57 : decode c_X_add 57 = .ok (.getfield 13, 3) := by decide +kernel
theorem d_X_add_60 : decode c_X_add 60 = .ok (.iload_n 1, 1) := by decide +kernel
theorem d_X_add_61 : decode c_X_add 61 = .ok (.laload, 1) := by decide +kernel
theorem d_X_add_62 : decode c_X_add 62 = .ok (.lmul, 1) := by decide +kernel
theorem d_X_add_63 : decode c_X_add 63 = .ok (.ladd, 1) := by decide +kernel
theorem d_X_add_64 : decode c_X_add 64 = .ok (.aload_n 0, 1) := by decide +kernel
theorem d_X_add_65 : decode c_X_add 65 = .ok (.getfield 13, 3) := by decide +kernel
theorem d_X_add_68 : decode c_X_add 68 = .ok (.iload_n 1, 1) := by decide +kernel
theorem d_X_add_69 : decode c_X_add 69 = .ok (.laload, 1) := by decide +kernel
theorem d_X_add_70 : decode c_X_add 70 = .ok (.aload_n 0, 1) := by decide +kernel
theorem d_X_add_71 : decode c_X_add 71 = .ok (.getfield 13, 3) := by decide +kernel
theorem d_X_add_74 : decode c_X_add 74 = .ok (.iload_n 2, 1) := by decide +kernel
theorem d_X_add_75 : decode c_X_add 75 = .ok (.laload, 1) := by decide +kernel
theorem d_X_add_76 : decode c_X_add 76 = .ok (.lmul, 1) := by decide +kernel
theorem d_X_add_77 : decode c_X_add 77 = .ok (.aload_n 0, 1) := by decide +kernel
theorem d_X_add_78 : decode c_X_add 78 = .ok (.getfield 16, 3) := by decide +kernel
theorem d_X_add_81 : decode c_X_add 81 = .ok (.iload_n 1, 1) := by decide +kernel
theorem d_X_add_82 : decode c_X_add 82 = .ok (.iaload, 1) := by decide +kernel
theorem d_X_add_83 : decode c_X_add 83 = .ok (.invokevirtual 41, 3) := by decide +kernel
theorem d_X_add_86 : decode c_X_add 86 = .ok (.ireturn, 1) := by decide +kernel
theorem d_X_times_0 : decode c_X_times 0 = .ok (.aload_n 0, 1) := by decide +kernel
theorem d_X_times_1 : decode c_X_times 1 = .ok (.iload_n 1, 1) := by decide +kernel
theorem d_X_times_2 : decode c_X_times 2 = .ok (.invokevirtual 45, 3) := by decide +kernel
theorem d_X_times_5 : decode c_X_times 5 = .ok (.ifCond .eq 11, 3) := by decide +kernel
theorem d_X_times_8 : decode c_X_times 8 = .ok (.aload_n 0, 1) := by decide +kernel
theorem d_X_times_9 : decode c_X_times 9 = .ok (.iload_n 2, 1) := by decide +kernel
theorem d_X_times_10 : decode c_X_times 10 = .ok (.invokevirtual 45, 3) := by decide +kernel
theorem d_X_times_13 : decode c_X_times 13 = .ok (.ifCond .ne 6, 3) := by decide +kernel
theorem d_X_times_16 : decode c_X_times 16 = .ok (.bipush (-3), 2) := by decide +kernel
theorem d_X_times_18 : decode c_X_times 18 = .ok (.ireturn, 1) := by decide +kernel
theorem d_X_times_19 : decode c_X_times 19 = .ok (.aload_n 0, 1) := by decide +kernel
theorem d_X_times_20 : decode c_X_times 20 = .ok (.getfield 16, 3) := by decide +kernel
theorem d_X_times_23 : decode c_X_times 23 = .ok (.iload_n 1, 1) := by decide +kernel
theorem d_X_times_24 : decode c_X_times 24 = .ok (.iaload, 1) := by decide +kernel
theorem d_X_times_25 : decode c_X_times 25 = .ok (.aload_n 0, 1) := by decide +kernel
theorem d_X_times_26 : decode c_X_times 26 = .ok (.getfield 16, 3) := by decide +kernel
theorem d_X_times_29 : decode c_X_times 29 = .ok (.iload_n 2, 1) := by decide +kernel
theorem d_X_times_30 : decode c_X_times 30 = .ok (.iaload, 1) := by decide +kernel
theorem d_X_times_31 : decode c_X_times 31 = .ok (.invokestatic 49, 3) := by decide +kernel
theorem d_X_times_34 : decode c_X_times 34 = .ok (.istore_n 3, 1) := by decide +kernel
theorem d_X_times_35 : decode c_X_times 35 = .ok (.iload_n 3, 1) := by decide +kernel
theorem d_X_times_36 : decode c_X_times 36 = .ok (.iconst (-1), 1) := by decide +kernel
theorem d_X_times_37 : decode c_X_times 37 = .ok (.if_icmp .ne 5, 3) := by decide +kernel
theorem d_X_times_40 : decode c_X_times 40 = .ok (.iconst (-1), 1) := by decide +kernel
theorem d_X_times_41 : decode c_X_times 41 = .ok (.ireturn, 1) := by decide +kernel
theorem d_X_times_42 : decode c_X_times 42 = .ok (.aload_n 0, 1) := by decide +kernel
theorem d_X_times_43 : decode c_X_times 43 = .ok (.aload_n 0, 1) := by decide +kernel
theorem d_X_times_44 : decode c_X_times 44 = .ok (.getfield 9, 3) := by decide +kernel
theorem d_X_times_47 : decode c_X_times 47 = .ok (.iload_n 1, 1) := by decide +kernel
theorem d_X_times_48 : decode c_X_times 48 = .ok (.laload, 1) := by decide +kernel
theorem d_X_times_49 : decode c_X_times 49 = .ok (.aload_n 0, 1) := by decide +kernel
theorem d_X_times_50 : decode c_X_times 50 = .ok (.getfield 9, 3) := by decide +kernel
theorem d_X_times_53 : decode c_X_times 53 = .ok (.iload_n 2, 1) := by decide +kernel
theorem d_X_times_54 : decode c_X_times 54 = .ok (.laload, 1) := by decide +kernel
theorem d_X_times_55 : decode c_X_times 55 = .ok (.lmul, 1) := by decide +kernel
theorem d_X_times_56 : decode c_X_times 56 = .ok (.aload_n 0, 1) := by decide +kernel
theorem d_X_times_57 : decode c_X_times 57 = .ok (.getfield 13, 3) := by decide +kernel
theorem d_X_times_60 : decode c_X_times 60 = .ok (.iload_n 1, 1) := by decide +kernel
theorem d_X_times_61 : decode c_X_times 61 = .ok (.laload, 1) := by decide +kernel
theorem d_X_times_62 : decode c_X_times 62 = .ok (.aload_n 0, 1) := by decide +kernel
theorem d_X_times_63 : decode c_X_times 63 = .ok (.getfield 13, 3) := by decide +kernel
theorem d_X_times_66 : decode c_X_times 66 = .ok (.iload_n 2, 1) := by decide +kernel
theorem d_X_times_67 : decode c_X_times 67 = .ok (.laload, 1) := by decide +kernel
theorem d_X_times_68 : decode c_X_times 68 = .ok (.lmul, 1) := by decide +kernel
theorem d_X_times_69 : decode c_X_times 69 = .ok (.iload_n 3, 1) := by decide +kernel
theorem d_X_times_70 : decode c_X_times 70 = .ok (.invokevirtual 41, 3) := by decide +kernel
theorem d_X_times_73 : decode c_X_times 73 = .ok (.ireturn, 1) := by decide +kernel
theorem d_X_over_0 : decode c_X_over 0 = .ok (.aload_n 0, 1) := by decide +kernel
theorem d_X_over_1 : decode c_X_over 1 = .ok (.iload_n 1, 1) := by decide +kernel
theorem d_X_over_2 : decode c_X_over 2 = .ok (.invokevirtual 45, 3) := by decide +kernel
theorem d_X_over_5 : decode c_X_over 5 = .ok (.ifCond .eq 11, 3) := by decide +kernel
theorem d_X_over_8 : decode c_X_over 8 = .ok (.aload_n 0, 1) := by decide +kernel
theorem d_X_over_9 : decode c_X_over 9 = .ok (.iload_n 2, 1) := by decide +kernel
theorem d_X_over_10 : decode c_X_over 10 = .ok (.invokevirtual 45, 3) := by decide +kernel
theorem d_X_over_13 : decode c_X_over 13 = .ok (.ifCond .ne 6, 3) := by decide +kernel
theorem d_X_over_16 : decode c_X_over 16 = .ok (.bipush (-3), 2) := by decide +kernel
theorem d_X_over_18 : decode c_X_over 18 = .ok (.ireturn, 1) := by decide +kernel
theorem d_X_over_19 : decode c_X_over 19 = .ok (.aload_n 0, 1) := by decide +kernel
theorem d_X_over_20 : decode c_X_over 20 = .ok (.getfield 16, 3) := by decide +kernel
theorem d_X_over_23 : decode c_X_over 23 = .ok (.iload_n 1, 1) := by decide +kernel
theorem d_X_over_24 : decode c_X_over 24 = .ok (.iaload, 1) := by decide +kernel
theorem d_X_over_25 : decode c_X_over 25 = .ok (.aload_n 0, 1) := by decide +kernel
theorem d_X_over_26 : decode c_X_over 26 = .ok (.getfield 16, 3) := by decide +kernel
theorem d_X_over_29 : decode c_X_over 29 = .ok (.iload_n 2, 1) := by decide +kernel
theorem d_X_over_30 : decode c_X_over 30 = .ok (.iaload, 1) := by decide +kernel
theorem d_X_over_31 : decode c_X_over 31 = .ok (.invokestatic 53, 3) := by decide +kernel
theorem d_X_over_34 : decode c_X_over 34 = .ok (.istore_n 3, 1) := by decide +kernel
theorem d_X_over_35 : decode c_X_over 35 = .ok (.iload_n 3, 1) := by decide +kernel
theorem d_X_over_36 : decode c_X_over 36 = .ok (.iconst (-1), 1) := by decide +kernel
theorem d_X_over_37 : decode c_X_over 37 = .ok (.if_icmp .ne 5, 3) := by decide +kernel
theorem d_X_over_40 : decode c_X_over 40 = .ok (.iconst (-1), 1) := by decide +kernel
theorem d_X_over_41 : decode c_X_over 41 = .ok (.ireturn, 1) := by decide +kernel
theorem d_X_over_42 : decode c_X_over 42 = .ok (.aload_n 0, 1) := by decide +kernel
theorem d_X_over_43 : decode c_X_over 43 = .ok (.getfield 9, 3) := by decide +kernel
theorem d_X_over_46 : decode c_X_over 46 = .ok (.iload_n 2, 1) := by decide +kernel
theorem d_X_over_47 : decode c_X_over 47 = .ok (.laload, 1) := by decide +kernel
theorem d_X_over_48 : decode c_X_over 48 = .ok (.lconst 0, 1) := by decide +kernel
theorem d_X_over_49 : decode c_X_over 49 = .ok (.lcmp, 1) := by decide +kernel
theorem d_X_over_50 : decode c_X_over 50 = .ok (.ifCond .ne 13, 3) := by decide +kernel
theorem d_X_over_53 : decode c_X_over 53 = .ok (.new 30, 3) := by decide +kernel
theorem d_X_over_56 : decode c_X_over 56 = .ok (.dup, 1) := by decide +kernel
theorem d_X_over_57 : decode c_X_over 57 = .ok (.ldc 56, 2) := by decide +kernel
theorem d_X_over_59 : decode c_X_over 59 = .ok (.invokespecial 34, 3) := by decide +kernel
theorem d_X_over_62 : decode c_X_over 62 = .ok (.athrow, 1) := by decide +kernel
theorem d_X_over_63 : decode c_X_over 63 = .ok (.aload_n 0, 1) := by decide +kernel
theorem d_X_over_64 : decode c_X_over 64 = .ok (.aload_n 0, 1) := by decide +kernel
theorem d_X_over_65 : decode c_X_over 65 = .ok (.getfield 9, 3) := by decide +kernel
theorem d_X_over_68 : decode c_X_over 68 = .ok (.iload_n 1, 1) := by decide +kernel
theorem d_X_over_69 : decode c_X_over 69 = .ok (.laload, 1) := by decide +kernel
theorem d_X_over_70 : decode c_X_over 70 = .ok (.aload_n 0, 1) := by decide +kernel
theorem d_X_over_71 : decode c_X_over 71 = .ok (.getfield 13, 3) := by decide +kernel
theorem d_X_over_74 : decode c_X_over 74 = .ok (.iload_n 2, 1) := by decide +kernel
theorem d_X_over_75 : decode c_X_over 75 = .ok (.laload, 1) := by decide +kernel
theorem d_X_over_76 : decode c_X_over 76 = .ok (.lmul, 1) := by decide +kernel
theorem d_X_over_77 : decode c_X_over 77 = .ok (.aload_n 0, 1) := by decide +kernel
theorem d_X_over_78 : decode c_X_over 78 = .ok (.getfield 13, 3) := by decide +kernel
theorem d_X_over_81 : decode c_X_over 81 = .ok (.iload_n 1, 1) := by decide +kernel
theorem d_X_over_82 : decode c_X_over 82 = .ok (.laload, 1) := by decide +kernel
theorem d_X_over_83 : decode c_X_over 83 = .ok (.aload_n 0, 1) := by decide +kernel
theorem d_X_over_84 : decode c_X_over 84 = .ok (.getfield 9, 3) := by decide +kernel
theorem d_X_over_87 : decode c_X_over 87 = .ok (.iload_n 2, 1) := by decide +kernel
theorem d_X_over_88 : decode c_X_over 88 = .ok (.laload, 1) := by decide +kernel
theorem d_X_over_89 : decode c_X_over 89 = .ok (.lmul, 1) := by decide +kernel
theorem d_X_over_90 : decode c_X_over 90 = .ok (.iload_n 3, 1) := by decide +kernel
theorem d_X_over_91 : decode c_X_over 91 = .ok (.invokevirtual 41, 3) := by decide +kernel
theorem d_X_over_94 : decode c_X_over 94 = .ok (.ireturn, 1) := by decide +kernel
theorem d_X_round_0 : decode c_X_round 0 = .ok (.aload_n 0, 1) := by decide +kernel
theorem d_X_round_1 : decode c_X_round 1 = .ok (.iload_n 1, 1) := by decide +kernel
theorem d_X_round_2 : decode c_X_round 2 = .ok (.invokevirtual 45, 3) := by decide +kernel
theorem d_X_round_5 : decode c_X_round 5 = .ok (.ifCond .ne 6, 3) := by decide +kernel
theorem d_X_round_8 : decode c_X_round 8 = .ok (.bipush (-3), 2) := by decide +kernel
theorem d_X_round_10 : decode c_X_round 10 = .ok (.ireturn, 1) := by decide +kernel
theorem d_X_round_11 : decode c_X_round 11 = .ok (.iload_n 2, 1) := by decide +kernel
theorem d_X_round_12 : decode c_X_round 12 = .ok (.ifCond .lt 23, 3) := by decide +kernel
theorem d_X_round_15 : decode c_X_round 15 = .ok (.iload_n 2, 1) := by decide +kernel
theorem d_X_round_16 : decode c_X_round 16 = .ok (.bipush 6, 2) := by decide +kernel
theorem d_X_round_18 : decode c_X_round 18 = .ok (.if_icmp .gt 17, 3) := by decide +kernel
theorem d_X_round_21 : decode c_X_round 21 = .ok (.lload_n 3, 1) := by decide +kernel
theorem d_X_round_22 : decode c_X_round 22 = .ok (.lconst 1, 1) := by decide +kernel
theorem d_X_round_23 : decode c_X_round 23 = .ok (.lcmp, 1) := by decide +kernel
theorem d_X_round_24 : decode c_X_round 24 = .ok (.ifCond .lt 11, 3) := by decide +kernel
theorem d_X_round_27 : decode c_X_round 27 = .ok (.lload_n 3, 1) := by decide +kernel
theorem d_X_round_28 : decode c_X_round 28 = .ok (.ldc2_w 58, 3) := by decide +kernel
theorem d_X_round_31 : decode c_X_round 31 = .ok (.lcmp, 1) := by decide +kernel
theorem d_X_round_32 : decode c_X_round 32 = .ok (.ifCond .le 5, 3) := by decide +kernel
theorem d_X_round_35 : decode c_X_round 35 = .ok (.iconst (-1), 1) := by decide +kernel
theorem d_X_round_36 : decode c_X_round 36 = .ok (.ireturn, 1) := by decide +kernel
theorem d_X_round_37 : decode c_X_round 37 = .ok (.aload_n 0, 1) := by decide +kernel
theorem d_X_round_38 : decode c_X_round 38 = .ok (.getfield 9, 3) := by decide +kernel
theorem d_X_round_41 : decode c_X_round 41 = .ok (.iload_n 1, 1) := by decide +kernel
theorem d_X_round_42 : decode c_X_round 42 = .ok (.laload, 1) := by decide +kernel
theorem d_X_round_43 : decode c_X_round 43 = .ok (.lload_n 3, 1) := by decide +kernel
theorem d_X_round_44 : decode c_X_round 44 = .ok (.lmul, 1) := by decide +kernel
theorem d_X_round_45 : decode c_X_round 45 = .ok (.lstore 5, 2) := by decide +kernel
theorem d_X_round_47 : decode c_X_round 47 = .ok (.lload 5, 2) := by decide +kernel
theorem d_X_round_49 : decode c_X_round 49 = .ok (.aload_n 0, 1) := by decide +kernel
theorem d_X_round_50 : decode c_X_round 50 = .ok (.getfield 13, 3) := by decide +kernel
theorem d_X_round_53 : decode c_X_round 53 = .ok (.iload_n 1, 1) := by decide +kernel
theorem d_X_round_54 : decode c_X_round 54 = .ok (.laload, 1) := by decide +kernel
theorem d_X_round_55 : decode c_X_round 55 = .ok (.invokestatic 60, 3) := by decide +kernel
theorem d_X_round_58 : decode c_X_round 58 = .ok (.lstore 7, 2) := by decide +kernel
theorem d_X_round_60 : decode c_X_round 60 = .ok (.lload 5, 2) := by decide +kernel
theorem d_X_round_62 : decode c_X_round 62 = .ok (.aload_n 0, 1) := by decide +kernel
theorem d_X_round_63 : decode c_X_round 63 = .ok (.getfield 13, 3) := by decide +kernel
theorem d_X_round_66 : decode c_X_round 66 = .ok (.iload_n 1, 1) := by decide +kernel
theorem d_X_round_67 : decode c_X_round 67 = .ok (.laload, 1) := by decide +kernel
theorem d_X_round_68 : decode c_X_round 68 = .ok (.invokestatic 64, 3) := by decide +kernel
theorem d_X_round_71 : decode c_X_round 71 = .ok (.lstore 9, 2) := by decide +kernel
theorem d_X_round_73 : decode c_X_round 73 = .ok (.iload_n 2, 1) := by decide +kernel
theorem d_X_round_74 : decode c_X_round 74 = .ok (.lload 7, 2) := by decide +kernel
theorem d_X_round_76 : decode c_X_round 76 = .ok (.lload 9, 2) := by decide +kernel
theorem d_X_round_78 : decode c_X_round 78 = .ok (.aload_n 0, 1) := by decide +kernel
theorem d_X_round_79 : decode c_X_round 79 = .ok (.getfield 13, 3) := by decide +kernel
theorem d_X_round_82 : decode c_X_round 82 = .ok (.iload_n 1, 1) := by decide +kernel
theorem d_X_round_83 : decode c_X_round 83 = .ok (.laload, 1) := by decide +kernel
theorem d_X_round_84 : decode c_X_round 84 = .ok (.invokestatic 67, 3) := by decide +kernel
theorem d_X_round_87 : decode c_X_round 87 = .ok (.ifCond .eq 10, 3) := by decide +kernel
theorem d_X_round_90 : decode c_X_round 90 = .ok (.lload 7, 2) := by decide +kernel
theorem d_X_round_92 : decode c_X_round 92 = .ok (.lconst 1, 1) := by decide +kernel
theorem d_X_round_93 : decode c_X_round 93 = .ok (.ladd, 1) := by decide +kernel
theorem d_X_round_94 : decode c_X_round 94 = .ok (.goto 5, 3) := by decide +kernel
theorem d_X_round_97 : decode c_X_round 97 = .ok (.lload 7, 2) := by decide +kernel
theorem d_X_round_99 : decode c_X_round 99 = .ok (.lstore 11, 2) := by decide +kernel
theorem d_X_round_101 : decode c_X_round 101 = .ok (.aload_n 0, 1) := by decide +kernel
theorem d_X_round_102 : decode c_X_round 102 = .ok (.lload 11, 2) := by decide +kernel
theorem d_X_round_104 : decode c_X_round 104 = .ok (.lload_n 3, 1) := by decide +kernel
theorem d_X_round_105 : decode c_X_round 105 = .ok (.aload_n 0, 1) := by decide +kernel
theorem d_X_round_106 : decode c_X_round 106 = .ok (.getfield 16, 3) := by decide +kernel
theorem d_X_round_109 : decode c_X_round 109 = .ok (.iload_n 1, 1) := by decide +kernel
theorem d_X_round_110 : decode c_X_round 110 = .ok (.iaload, 1) := by decide +kernel
theorem d_X_round_111 : decode c_X_round 111 = .ok (.invokevirtual 41, 3) := by decide +kernel
theorem d_X_round_114 : decode c_X_round 114 = .ok (.ireturn, 1) := by decide +kernel
theorem d_X_order_0 : decode c_X_order 0 = .ok (.aload_n 0, 1) := by decide +kernel
theorem d_X_order_1 : decode c_X_order 1 = .ok (.iload_n 1, 1) := by decide +kernel
theorem d_X_order_2 : decode c_X_order 2 = .ok (.invokevirtual 45, 3) := by decide +kernel
theorem d_X_order_5 : decode c_X_order 5 = .ok (.ifCond .eq 11, 3) := by decide +kernel
theorem d_X_order_8 : decode c_X_order 8 = .ok (.aload_n 0, 1) := by decide +kernel
theorem d_X_order_9 : decode c_X_order 9 = .ok (.iload_n 2, 1) := by decide +kernel
theorem d_X_order_10 : decode c_X_order 10 = .ok (.invokevirtual 45, 3) := by decide +kernel
theorem d_X_order_13 : decode c_X_order 13 = .ok (.ifCond .ne 6, 3) := by decide +kernel
theorem d_X_order_16 : decode c_X_order 16 = .ok (.bipush (-3), 2) := by decide +kernel
theorem d_X_order_18 : decode c_X_order 18 = .ok (.ireturn, 1) := by decide +kernel
theorem d_X_order_19 : decode c_X_order 19 = .ok (.aload_n 0, 1) := by decide +kernel
theorem d_X_order_20 : decode c_X_order 20 = .ok (.getfield 16, 3) := by decide +kernel
theorem d_X_order_23 : decode c_X_order 23 = .ok (.iload_n 1, 1) := by decide +kernel
theorem d_X_order_24 : decode c_X_order 24 = .ok (.iaload, 1) := by decide +kernel
theorem d_X_order_25 : decode c_X_order 25 = .ok (.aload_n 0, 1) := by decide +kernel
theorem d_X_order_26 : decode c_X_order 26 = .ok (.getfield 16, 3) := by decide +kernel
theorem d_X_order_29 : decode c_X_order 29 = .ok (.iload_n 2, 1) := by decide +kernel
theorem d_X_order_30 : decode c_X_order 30 = .ok (.iaload, 1) := by decide +kernel
theorem d_X_order_31 : decode c_X_order 31 = .ok (.if_icmp .eq 5, 3) := by decide +kernel
theorem d_X_order_34 : decode c_X_order 34 = .ok (.iconst 2, 1) := by decide +kernel
theorem d_X_order_35 : decode c_X_order 35 = .ok (.ireturn, 1) := by decide +kernel
theorem d_X_order_36 : decode c_X_order 36 = .ok (.aload_n 0, 1) := by decide +kernel
theorem d_X_order_37 : decode c_X_order 37 = .ok (.getfield 9, 3) := by decide +kernel
theorem d_X_order_40 : decode c_X_order 40 = .ok (.iload_n 1, 1) := by decide +kernel
theorem d_X_order_41 : decode c_X_order 41 = .ok (.laload, 1) := by decide +kernel
theorem d_X_order_42 : decode c_X_order 42 = .ok (.aload_n 0, 1) := by decide +kernel
theorem d_X_order_43 : decode c_X_order 43 = .ok (.getfield 13, 3) := by decide +kernel
theorem d_X_order_46 : decode c_X_order 46 = .ok (.iload_n 2, 1) := by decide +kernel
theorem d_X_order_47 : decode c_X_order 47 = .ok (.laload, 1) := by decide +kernel
theorem d_X_order_48 : decode c_X_order 48 = .ok (.lmul, 1) := by decide +kernel
theorem d_X_order_49 : decode c_X_order 49 = .ok (.lstore_n 3, 1) := by decide +kernel
theorem d_X_order_50 : decode c_X_order 50 = .ok (.aload_n 0, 1) := by decide +kernel
theorem d_X_order_51 : decode c_X_order 51 = .ok (.getfield 9, 3) := by decide +kernel
theorem d_X_order_54 : decode c_X_order 54 = .ok (.iload_n 2, 1) := by decide +kernel
theorem d_X_order_55 : decode c_X_order 55 = .ok (.laload, 1) := by decide +kernel
theorem d_X_order_56 : decode c_X_order 56 = .ok (.aload_n 0, 1) := by decide +kernel
theorem d_X_order_57 : decode c_X_order 57 = .ok (.getfield 13, 3) := by decide +kernel
theorem d_X_order_60 : decode c_X_order 60 = .ok (.iload_n 1, 1) := by decide +kernel
theorem d_X_order_61 : decode c_X_order 61 = .ok (.laload, 1) := by decide +kernel
theorem d_X_order_62 : decode c_X_order 62 = .ok (.lmul, 1) := by decide +kernel
theorem d_X_order_63 : decode c_X_order 63 = .ok (.lstore 5, 2) := by decide +kernel
theorem d_X_order_65 : decode c_X_order 65 = .ok (.lload_n 3, 1) := by decide +kernel
theorem d_X_order_66 : decode c_X_order 66 = .ok (.lload 5, 2) := by decide +kernel
theorem d_X_order_68 : decode c_X_order 68 = .ok (.lcmp, 1) := by decide +kernel
theorem d_X_order_69 : decode c_X_order 69 = .ok (.ifCond .ge 7, 3) := by decide +kernel
theorem d_X_order_72 : decode c_X_order 72 = .ok (.iconst (-1), 1) := by decide +kernel
theorem d_X_order_73 : decode c_X_order 73 = .ok (.goto 15, 3) := by decide +kernel
theorem d_X_order_76 : decode c_X_order 76 = .ok (.lload_n 3, 1) := by decide +kernel
theorem d_X_order_77 : decode c_X_order 77 = .ok (.lload 5, 2) := by decide +kernel
theorem d_X_order_79 : decode c_X_order 79 = .ok (.lcmp, 1) := by decide +kernel
theorem d_X_order_80 : decode c_X_order 80 = .ok (.ifCond .le 7, 3) := by decide +kernel
theorem d_X_order_83 : decode c_X_order 83 = .ok (.iconst 1, 1) := by decide +kernel
theorem d_X_order_84 : decode c_X_order 84 = .ok (.goto 4, 3) := by decide +kernel
theorem d_X_order_87 : decode c_X_order 87 = .ok (.iconst 0, 1) := by decide +kernel
theorem d_X_order_88 : decode c_X_order 88 = .ok (.ireturn, 1) := by decide +kernel
theorem d_X_row_0 : decode c_X_row 0 = .ok (.aload_n 0, 1) := by decide +kernel
theorem d_X_row_1 : decode c_X_row 1 = .ok (.iload_n 1, 1) := by decide +kernel
theorem d_X_row_2 : decode c_X_row 2 = .ok (.invokevirtual 71, 3) := by decide +kernel
theorem d_X_row_5 : decode c_X_row 5 = .ok (.astore 8, 2) := by decide +kernel
theorem d_X_row_7 : decode c_X_row 7 = .ok (.aload 8, 2) := by decide +kernel
theorem d_X_row_9 : decode c_X_row 9 = .ok (.ifnull 16, 3) := by decide +kernel
theorem d_X_row_12 : decode c_X_row 12 = .ok (.aload 8, 2) := by decide +kernel
theorem d_X_row_14 : decode c_X_row 14 = .ok (.lload_n 2, 1) := by decide +kernel
theorem d_X_row_15 : decode c_X_row 15 = .ok (.lload 4, 2) := by decide +kernel
theorem d_X_row_17 : decode c_X_row 17 = .ok (.lload 6, 2) := by decide +kernel
theorem d_X_row_19 : decode c_X_row 19 = .ok (.invokevirtual 75, 3) := by decide +kernel
theorem d_X_row_22 : decode c_X_row 22 = .ok (.ifCond .ne 5, 3) := by decide +kernel
theorem d_X_row_25 : decode c_X_row 25 = .ok (.iconst 0, 1) := by decide +kernel
theorem d_X_row_26 : decode c_X_row 26 = .ok (.ireturn, 1) := by decide +kernel
theorem d_X_row_27 : decode c_X_row 27 = .ok (.aload 8, 2) := by decide +kernel
theorem d_X_row_29 : decode c_X_row 29 = .ok (.lload_n 2, 1) := by decide +kernel
theorem d_X_row_30 : decode c_X_row 30 = .ok (.lload 4, 2) := by decide +kernel
theorem d_X_row_32 : decode c_X_row 32 = .ok (.lload 6, 2) := by decide +kernel
theorem d_X_row_34 : decode c_X_row 34 = .ok (.invokevirtual 79, 3) := by decide +kernel
theorem d_X_row_37 : decode c_X_row 37 = .ok (.iconst 1, 1) := by decide +kernel
theorem d_X_row_38 : decode c_X_row 38 = .ok (.ireturn, 1) := by decide +kernel
theorem d_X_join_0 : decode c_X_join 0 = .ok (.aload_n 0, 1) := by decide +kernel
theorem d_X_join_1 : decode c_X_join 1 = .ok (.iload_n 1, 1) := by decide +kernel
theorem d_X_join_2 : decode c_X_join 2 = .ok (.invokevirtual 71, 3) := by decide +kernel
theorem d_X_join_5 : decode c_X_join 5 = .ok (.astore_n 3, 1) := by decide +kernel
theorem d_X_join_6 : decode c_X_join 6 = .ok (.aload_n 3, 1) := by decide +kernel
theorem d_X_join_7 : decode c_X_join 7 = .ok (.ifnull 11, 3) := by decide +kernel
theorem d_X_join_10 : decode c_X_join 10 = .ok (.aload_n 0, 1) := by decide +kernel
theorem d_X_join_11 : decode c_X_join 11 = .ok (.iload_n 2, 1) := by decide +kernel
theorem d_X_join_12 : decode c_X_join 12 = .ok (.invokevirtual 45, 3) := by decide +kernel
theorem d_X_join_15 : decode c_X_join 15 = .ok (.ifCond .ne 6, 3) := by decide +kernel
theorem d_X_join_18 : decode c_X_join 18 = .ok (.bipush (-3), 2) := by decide +kernel
theorem d_X_join_20 : decode c_X_join 20 = .ok (.ireturn, 1) := by decide +kernel
theorem d_X_join_21 : decode c_X_join 21 = .ok (.aload_n 3, 1) := by decide +kernel
theorem d_X_join_22 : decode c_X_join 22 = .ok (.getfield 83, 3) := by decide +kernel
theorem d_X_join_25 : decode c_X_join 25 = .ok (.ifCond .ne 5, 3) := by decide +kernel
theorem d_X_join_28 : decode c_X_join 28 = .ok (.iconst (-1), 1) := by decide +kernel
theorem d_X_join_29 : decode c_X_join 29 = .ok (.ireturn, 1) := by decide +kernel
theorem d_X_join_30 : decode c_X_join 30 = .ok (.aload_n 3, 1) := by decide +kernel
theorem d_X_join_31 : decode c_X_join 31 = .ok (.aload_n 0, 1) := by decide +kernel
theorem d_X_join_32 : decode c_X_join 32 = .ok (.getfield 9, 3) := by decide +kernel
theorem d_X_join_35 : decode c_X_join 35 = .ok (.iload_n 2, 1) := by decide +kernel
theorem d_X_join_36 : decode c_X_join 36 = .ok (.laload, 1) := by decide +kernel
theorem d_X_join_37 : decode c_X_join 37 = .ok (.aload_n 0, 1) := by decide +kernel
theorem d_X_join_38 : decode c_X_join 38 = .ok (.getfield 13, 3) := by decide +kernel
theorem d_X_join_41 : decode c_X_join 41 = .ok (.iload_n 2, 1) := by decide +kernel
theorem d_X_join_42 : decode c_X_join 42 = .ok (.laload, 1) := by decide +kernel
theorem d_X_join_43 : decode c_X_join 43 = .ok (.invokevirtual 87, 3) := by decide +kernel
theorem d_X_join_46 : decode c_X_join 46 = .ok (.istore 4, 2) := by decide +kernel
theorem d_X_join_48 : decode c_X_join 48 = .ok (.iload 4, 2) := by decide +kernel
theorem d_X_join_50 : decode c_X_join 50 = .ok (.ifCond .ne 19, 3) := by decide +kernel
theorem d_X_join_53 : decode c_X_join 53 = .ok (.aload_n 0, 1) := by decide +kernel
theorem d_X_join_54 : decode c_X_join 54 = .ok (.aload_n 3, 1) := by decide +kernel
theorem d_X_join_55 : decode c_X_join 55 = .ok (.getfield 91, 3) := by decide +kernel
theorem d_X_join_58 : decode c_X_join 58 = .ok (.iconst 0, 1) := by decide +kernel
theorem d_X_join_59 : decode c_X_join 59 = .ok (.laload, 1) := by decide +kernel
theorem d_X_join_60 : decode c_X_join 60 = .ok (.aload_n 3, 1) := by decide +kernel
theorem d_X_join_61 : decode c_X_join 61 = .ok (.getfield 94, 3) := by decide +kernel
theorem d_X_join_64 : decode c_X_join 64 = .ok (.iconst 0, 1) := by decide +kernel
theorem d_X_join_65 : decode c_X_join 65 = .ok (.invokevirtual 41, 3) := by decide +kernel
theorem d_X_join_68 : decode c_X_join 68 = .ok (.ireturn, 1) := by decide +kernel
theorem d_X_join_69 : decode c_X_join 69 = .ok (.iload 4, 2) := by decide +kernel
theorem d_X_join_71 : decode c_X_join 71 = .ok (.aload_n 3, 1) := by decide +kernel
theorem d_X_join_72 : decode c_X_join 72 = .ok (.getfield 83, 3) := by decide +kernel
theorem d_X_join_75 : decode c_X_join 75 = .ok (.if_icmp .lt 24, 3) := by decide +kernel
theorem d_X_join_78 : decode c_X_join 78 = .ok (.aload_n 0, 1) := by decide +kernel
theorem d_X_join_79 : decode c_X_join 79 = .ok (.aload_n 3, 1) := by decide +kernel
theorem d_X_join_80 : decode c_X_join 80 = .ok (.getfield 91, 3) := by decide +kernel
theorem d_X_join_83 : decode c_X_join 83 = .ok (.aload_n 3, 1) := by decide +kernel
theorem d_X_join_84 : decode c_X_join 84 = .ok (.getfield 83, 3) := by decide +kernel
theorem d_X_join_87 : decode c_X_join 87 = .ok (.iconst 1, 1) := by decide +kernel
theorem d_X_join_88 : decode c_X_join 88 = .ok (.isub, 1) := by decide +kernel
theorem d_X_join_89 : decode c_X_join 89 = .ok (.laload, 1) := by decide +kernel
theorem d_X_join_90 : decode c_X_join 90 = .ok (.aload_n 3, 1) := by decide +kernel
theorem d_X_join_91 : decode c_X_join 91 = .ok (.getfield 94, 3) := by decide +kernel
theorem d_X_join_94 : decode c_X_join 94 = .ok (.iconst 0, 1) := by decide +kernel
theorem d_X_join_95 : decode c_X_join 95 = .ok (.invokevirtual 41, 3) := by decide +kernel
theorem d_X_join_98 : decode c_X_join 98 = .ok (.ireturn, 1) := by decide +kernel
theorem d_X_join_99 : decode c_X_join 99 = .ok (.aload_n 0, 1) := by decide +kernel
theorem d_X_join_100 : decode c_X_join 100 = .ok (.aload_n 3, 1) := by decide +kernel
theorem d_X_join_101 : decode c_X_join 101 = .ok (.iload 4, 2) := by decide +kernel
theorem d_X_join_103 : decode c_X_join 103 = .ok (.iload_n 2, 1) := by decide +kernel
theorem d_X_join_104 : decode c_X_join 104 = .ok (.invokevirtual 98, 3) := by decide +kernel
theorem d_X_join_107 : decode c_X_join 107 = .ok (.ireturn, 1) := by decide +kernel
theorem d_X_weight_0 : decode c_X_weight 0 = .ok (.lload_n 1, 1) := by decide +kernel
theorem d_X_weight_1 : decode c_X_weight 1 = .ok (.lconst 0, 1) := by decide +kernel
theorem d_X_weight_2 : decode c_X_weight 2 = .ok (.lcmp, 1) := by decide +kernel
theorem d_X_weight_3 : decode c_X_weight 3 = .ok (.ifCond .lt 20, 3) := by decide +kernel
theorem d_X_weight_6 : decode c_X_weight 6 = .ok (.lload_n 1, 1) := by decide +kernel
theorem d_X_weight_7 : decode c_X_weight 7 = .ok (.ldc2_w 102, 3) := by decide +kernel
theorem d_X_weight_10 : decode c_X_weight 10 = .ok (.lcmp, 1) := by decide +kernel
theorem d_X_weight_11 : decode c_X_weight 11 = .ok (.ifCond .gt 12, 3) := by decide +kernel
theorem d_X_weight_14 : decode c_X_weight 14 = .ok (.aload_n 0, 1) := by decide +kernel
theorem d_X_weight_15 : decode c_X_weight 15 = .ok (.getfield 104, 3) := by decide +kernel
theorem d_X_weight_18 : decode c_X_weight 18 = .ok (.bipush 16, 2) := by decide +kernel
theorem d_X_weight_20 : decode c_X_weight 20 = .ok (.if_icmp .lt 5, 3) := by decide +kernel
theorem d_X_weight_23 : decode c_X_weight 23 = .ok (.iconst 0, 1) := by decide +kernel
theorem d_X_weight_24 : decode c_X_weight 24 = .ok (.ireturn, 1) := by decide +kernel
theorem d_X_weight_25 : decode c_X_weight 25 = .ok (.aload_n 0, 1) := by decide +kernel
theorem d_X_weight_26 : decode c_X_weight 26 = .ok (.getfield 20, 3) := by decide +kernel
theorem d_X_weight_29 : decode c_X_weight 29 = .ok (.aload_n 0, 1) := by decide +kernel
theorem d_X_weight_30 : decode c_X_weight 30 = .ok (.getfield 104, 3) := by decide +kernel
theorem d_X_weight_33 : decode c_X_weight 33 = .ok (.lload_n 1, 1) := by decide +kernel
theorem d_X_weight_34 : decode c_X_weight 34 = .ok (.lastore, 1) := by decide +kernel
theorem d_X_weight_35 : decode c_X_weight 35 = .ok (.aload_n 0, 1) := by decide +kernel
theorem d_X_weight_36 : decode c_X_weight 36 = .ok (.dup, 1) := by decide +kernel
theorem d_X_weight_37 : decode c_X_weight 37 = .ok (.getfield 104, 3) := by decide +kernel
theorem d_X_weight_40 : decode c_X_weight 40 = .ok (.iconst 1, 1) := by decide +kernel
theorem d_X_weight_41 : decode c_X_weight 41 = .ok (.iadd, 1) := by decide +kernel
theorem d_X_weight_42 : decode c_X_weight 42 = .ok (.putfield 104, 3) := by decide +kernel
theorem d_X_weight_45 : decode c_X_weight 45 = .ok (.iconst 1, 1) := by decide +kernel
theorem d_X_weight_46 : decode c_X_weight 46 = .ok (.ireturn, 1) := by decide +kernel
theorem d_X_share_0 : decode c_X_share 0 = .ok (.aload_n 0, 1) := by decide +kernel
theorem d_X_share_1 : decode c_X_share 1 = .ok (.iload_n 1, 1) := by decide +kernel
theorem d_X_share_2 : decode c_X_share 2 = .ok (.invokevirtual 45, 3) := by decide +kernel
theorem d_X_share_5 : decode c_X_share 5 = .ok (.ifCond .eq 15, 3) := by decide +kernel
theorem d_X_share_8 : decode c_X_share 8 = .ok (.iload_n 2, 1) := by decide +kernel
theorem d_X_share_9 : decode c_X_share 9 = .ok (.ifCond .lt 11, 3) := by decide +kernel
theorem d_X_share_12 : decode c_X_share 12 = .ok (.iload_n 2, 1) := by decide +kernel
theorem d_X_share_13 : decode c_X_share 13 = .ok (.aload_n 0, 1) := by decide +kernel
theorem d_X_share_14 : decode c_X_share 14 = .ok (.getfield 104, 3) := by decide +kernel
theorem d_X_share_17 : decode c_X_share 17 = .ok (.if_icmp .lt 6, 3) := by decide +kernel
theorem d_X_share_20 : decode c_X_share 20 = .ok (.bipush (-3), 2) := by decide +kernel
theorem d_X_share_22 : decode c_X_share 22 = .ok (.ireturn, 1) := by decide +kernel
theorem d_X_share_23 : decode c_X_share 23 = .ok (.aload_n 0, 1) := by decide +kernel
theorem d_X_share_24 : decode c_X_share 24 = .ok (.invokevirtual 107, 3) := by decide +kernel
theorem d_X_share_27 : decode c_X_share 27 = .ok (.lstore_n 3, 1) := by decide +kernel
theorem d_X_share_28 : decode c_X_share 28 = .ok (.aload_n 0, 1) := by decide +kernel
theorem d_X_share_29 : decode c_X_share 29 = .ok (.getfield 9, 3) := by decide +kernel
theorem d_X_share_32 : decode c_X_share 32 = .ok (.iload_n 1, 1) := by decide +kernel
theorem d_X_share_33 : decode c_X_share 33 = .ok (.laload, 1) := by decide +kernel
theorem d_X_share_34 : decode c_X_share 34 = .ok (.lconst 0, 1) := by decide +kernel
theorem d_X_share_35 : decode c_X_share 35 = .ok (.lcmp, 1) := by decide +kernel
theorem d_X_share_36 : decode c_X_share 36 = .ok (.ifCond .lt 9, 3) := by decide +kernel
theorem d_X_share_39 : decode c_X_share 39 = .ok (.lload_n 3, 1) := by decide +kernel
theorem d_X_share_40 : decode c_X_share 40 = .ok (.lconst 0, 1) := by decide +kernel
theorem d_X_share_41 : decode c_X_share 41 = .ok (.lcmp, 1) := by decide +kernel
theorem d_X_share_42 : decode c_X_share 42 = .ok (.ifCond .ne 5, 3) := by decide +kernel
theorem d_X_share_45 : decode c_X_share 45 = .ok (.iconst (-1), 1) := by decide +kernel
theorem d_X_share_46 : decode c_X_share 46 = .ok (.ireturn, 1) := by decide +kernel
theorem d_X_share_47 : decode c_X_share 47 = .ok (.aload_n 0, 1) := by decide +kernel
theorem d_X_share_48 : decode c_X_share 48 = .ok (.getfield 9, 3) := by decide +kernel
theorem d_X_share_51 : decode c_X_share 51 = .ok (.iload_n 1, 1) := by decide +kernel
theorem d_X_share_52 : decode c_X_share 52 = .ok (.laload, 1) := by decide +kernel
theorem d_X_share_53 : decode c_X_share 53 = .ok (.ldc2_w 111, 3) := by decide +kernel
theorem d_X_share_56 : decode c_X_share 56 = .ok (.lmul, 1) := by decide +kernel
theorem d_X_share_57 : decode c_X_share 57 = .ok (.lstore 5, 2) := by decide +kernel
theorem d_X_share_59 : decode c_X_share 59 = .ok (.aload_n 0, 1) := by decide +kernel
theorem d_X_share_60 : decode c_X_share 60 = .ok (.getfield 13, 3) := by decide +kernel
theorem d_X_share_63 : decode c_X_share 63 = .ok (.iload_n 1, 1) := by decide +kernel
theorem d_X_share_64 : decode c_X_share 64 = .ok (.laload, 1) := by decide +kernel
theorem d_X_share_65 : decode c_X_share 65 = .ok (.lstore 7, 2) := by decide +kernel
theorem d_X_share_67 : decode c_X_share 67 = .ok (.aload_n 0, 1) := by decide +kernel
theorem d_X_share_68 : decode c_X_share 68 = .ok (.iload_n 2, 1) := by decide +kernel
theorem d_X_share_69 : decode c_X_share 69 = .ok (.lload 5, 2) := by decide +kernel
theorem d_X_share_71 : decode c_X_share 71 = .ok (.lload 7, 2) := by decide +kernel
theorem d_X_share_73 : decode c_X_share 73 = .ok (.invokestatic 60, 3) := by decide +kernel
theorem d_X_share_76 : decode c_X_share 76 = .ok (.lload_n 3, 1) := by decide +kernel
theorem d_X_share_77 : decode c_X_share 77 = .ok (.invokevirtual 113, 3) := by decide +kernel
theorem d_X_share_80 : decode c_X_share 80 = .ok (.lstore 9, 2) := by decide +kernel
theorem d_X_share_82 : decode c_X_share 82 = .ok (.iload_n 2, 1) := by decide +kernel
theorem d_X_share_83 : decode c_X_share 83 = .ok (.ifCond .le 19, 3) := by decide +kernel
theorem d_X_share_86 : decode c_X_share 86 = .ok (.aload_n 0, 1) := by decide +kernel
theorem d_X_share_87 : decode c_X_share 87 = .ok (.lload 9, 2) := by decide +kernel
theorem d_X_share_89 : decode c_X_share 89 = .ok (.ldc2_w 111, 3) := by decide +kernel
theorem d_X_share_92 : decode c_X_share 92 = .ok (.aload_n 0, 1) := by decide +kernel
theorem d_X_share_93 : decode c_X_share 93 = .ok (.getfield 16, 3) := by decide +kernel
theorem d_X_share_96 : decode c_X_share 96 = .ok (.iload_n 1, 1) := by decide +kernel
theorem d_X_share_97 : decode c_X_share 97 = .ok (.iaload, 1) := by decide +kernel
theorem d_X_share_98 : decode c_X_share 98 = .ok (.invokevirtual 41, 3) := by decide +kernel
theorem d_X_share_101 : decode c_X_share 101 = .ok (.ireturn, 1) := by decide +kernel
theorem d_X_share_102 : decode c_X_share 102 = .ok (.aload_n 0, 1) := by decide +kernel
theorem d_X_share_103 : decode c_X_share 103 = .ok (.lload 9, 2) := by decide +kernel
theorem d_X_share_105 : decode c_X_share 105 = .ok (.lload 7, 2) := by decide +kernel
theorem d_X_share_107 : decode c_X_share 107 = .ok (.lmul, 1) := by decide +kernel
theorem d_X_share_108 : decode c_X_share 108 = .ok (.lload 5, 2) := by decide +kernel
theorem d_X_share_110 : decode c_X_share 110 = .ok (.lload 7, 2) := by decide +kernel
theorem d_X_share_112 : decode c_X_share 112 = .ok (.invokestatic 64, 3) := by decide +kernel
theorem d_X_share_115 : decode c_X_share 115 = .ok (.ladd, 1) := by decide +kernel
theorem d_X_share_116 : decode c_X_share 116 = .ok (.ldc2_w 111, 3) := by decide +kernel
theorem d_X_share_119 : decode c_X_share 119 = .ok (.lload 7, 2) := by decide +kernel
theorem d_X_share_121 : decode c_X_share 121 = .ok (.lmul, 1) := by decide +kernel
theorem d_X_share_122 : decode c_X_share 122 = .ok (.aload_n 0, 1) := by decide +kernel
theorem d_X_share_123 : decode c_X_share 123 = .ok (.getfield 16, 3) := by decide +kernel
theorem d_X_share_126 : decode c_X_share 126 = .ok (.iload_n 1, 1) := by decide +kernel
theorem d_X_share_127 : decode c_X_share 127 = .ok (.iaload, 1) := by decide +kernel
theorem d_X_share_128 : decode c_X_share 128 = .ok (.invokevirtual 41, 3) := by decide +kernel
theorem d_X_share_131 : decode c_X_share 131 = .ok (.ireturn, 1) := by decide +kernel
theorem d_X_digit_0 : decode c_X_digit 0 = .ok (.aload_n 0, 1) := by decide +kernel
theorem d_X_digit_1 : decode c_X_digit 1 = .ok (.iload_n 1, 1) := by decide +kernel
theorem d_X_digit_2 : decode c_X_digit 2 = .ok (.invokevirtual 45, 3) := by decide +kernel
theorem d_X_digit_5 : decode c_X_digit 5 = .ok (.ifCond .ne 6, 3) := by decide +kernel
theorem d_X_digit_8 : decode c_X_digit 8 = .ok (.bipush (-3), 2) := by decide +kernel
theorem d_X_digit_10 : decode c_X_digit 10 = .ok (.ireturn, 1) := by decide +kernel
theorem d_X_digit_11 : decode c_X_digit 11 = .ok (.aload_n 0, 1) := by decide +kernel
theorem d_X_digit_12 : decode c_X_digit 12 = .ok (.getfield 9, 3) := by decide +kernel
theorem d_X_digit_15 : decode c_X_digit 15 = .ok (.iload_n 1, 1) := by decide +kernel
theorem d_X_digit_16 : decode c_X_digit 16 = .ok (.laload, 1) := by decide +kernel
theorem d_X_digit_17 : decode c_X_digit 17 = .ok (.invokestatic 117, 3) := by decide +kernel
theorem d_X_digit_20 : decode c_X_digit 20 = .ok (.lstore 4, 2) := by decide +kernel
theorem d_X_digit_22 : decode c_X_digit 22 = .ok (.aload_n 0, 1) := by decide +kernel
theorem d_X_digit_23 : decode c_X_digit 23 = .ok (.getfield 13, 3) := by decide +kernel
theorem d_X_digit_26 : decode c_X_digit 26 = .ok (.iload_n 1, 1) := by decide +kernel
theorem d_X_digit_27 : decode c_X_digit 27 = .ok (.laload, 1) := by decide +kernel
theorem d_X_digit_28 : decode c_X_digit 28 = .ok (.lstore 6, 2) := by decide +kernel
theorem d_X_digit_30 : decode c_X_digit 30 = .ok (.iload_n 2, 1) := by decide +kernel
theorem d_X_digit_31 : decode c_X_digit 31 = .ok (.ifCond .ne 17, 3) := by decide +kernel
theorem d_X_digit_34 : decode c_X_digit 34 = .ok (.lload 4, 2) := by decide +kernel
theorem d_X_digit_36 : decode c_X_digit 36 = .ok (.lload 6, 2) := by decide +kernel
theorem d_X_digit_38 : decode c_X_digit 38 = .ok (.invokestatic 60, 3) := by decide +kernel
theorem d_X_digit_41 : decode c_X_digit 41 = .ok (.iload_n 3, 1) := by decide +kernel
theorem d_X_digit_42 : decode c_X_digit 42 = .ok (.invokestatic 123, 3) := by decide +kernel
theorem d_X_digit_45 : decode c_X_digit 45 = .ok (.goto 16, 3) := by decide +kernel
theorem d_X_digit_48 : decode c_X_digit 48 = .ok (.lload 4, 2) := by decide +kernel
theorem d_X_digit_50 : decode c_X_digit 50 = .ok (.lload 6, 2) := by decide +kernel
theorem d_X_digit_52 : decode c_X_digit 52 = .ok (.invokestatic 64, 3) := by decide +kernel
theorem d_X_digit_55 : decode c_X_digit 55 = .ok (.lload 6, 2) := by decide +kernel
theorem d_X_digit_57 : decode c_X_digit 57 = .ok (.iload_n 3, 1) := by decide +kernel
theorem d_X_digit_58 : decode c_X_digit 58 = .ok (.invokestatic 127, 3) := by decide +kernel
theorem d_X_digit_61 : decode c_X_digit 61 = .ok (.istore 8, 2) := by decide +kernel
theorem d_X_digit_63 : decode c_X_digit 63 = .ok (.iload 8, 2) := by decide +kernel
theorem d_X_digit_65 : decode c_X_digit 65 = .ok (.iconst (-1), 1) := by decide +kernel
theorem d_X_digit_66 : decode c_X_digit 66 = .ok (.if_icmp .ne 13, 3) := by decide +kernel
theorem d_X_digit_69 : decode c_X_digit 69 = .ok (.new 130, 3) := by decide +kernel
theorem d_X_digit_72 : decode c_X_digit 72 = .ok (.dup, 1) := by decide +kernel
theorem d_X_digit_73 : decode c_X_digit 73 = .ok (.ldc 132, 2) := by decide +kernel
theorem d_X_digit_75 : decode c_X_digit 75 = .ok (.invokespecial 134, 3) := by decide +kernel
theorem d_X_digit_78 : decode c_X_digit 78 = .ok (.athrow, 1) := by decide +kernel
theorem d_X_digit_79 : decode c_X_digit 79 = .ok (.iload 8, 2) := by decide +kernel
theorem d_X_digit_81 : decode c_X_digit 81 = .ok (.ireturn, 1) := by decide +kernel
theorem d_X_told_0 : decode c_X_told 0 = .ok (.iload_n 2, 1) := by decide +kernel
theorem d_X_told_1 : decode c_X_told 1 = .ok (.tableswitch 137 0 5 #[39, 60, 81, 103, 109, 115], 39) := by decide +kernel
theorem d_X_told_40 : decode c_X_told 40 = .ok (.aload_n 0, 1) := by decide +kernel
theorem d_X_told_41 : decode c_X_told 41 = .ok (.iload_n 1, 1) := by decide +kernel
theorem d_X_told_42 : decode c_X_told 42 = .ok (.invokevirtual 45, 3) := by decide +kernel
theorem d_X_told_45 : decode c_X_told 45 = .ok (.ifCond .eq 12, 3) := by decide +kernel
theorem d_X_told_48 : decode c_X_told 48 = .ok (.aload_n 0, 1) := by decide +kernel
theorem d_X_told_49 : decode c_X_told 49 = .ok (.getfield 9, 3) := by decide +kernel
theorem d_X_told_52 : decode c_X_told 52 = .ok (.iload_n 1, 1) := by decide +kernel
theorem d_X_told_53 : decode c_X_told 53 = .ok (.laload, 1) := by decide +kernel
theorem d_X_told_54 : decode c_X_told 54 = .ok (.goto 6, 3) := by decide +kernel
theorem d_X_told_57 : decode c_X_told 57 = .ok (.ldc2_w 135, 3) := by decide +kernel
theorem d_X_told_60 : decode c_X_told 60 = .ok (.lreturn, 1) := by decide +kernel
theorem d_X_told_61 : decode c_X_told 61 = .ok (.aload_n 0, 1) := by decide +kernel
theorem d_X_told_62 : decode c_X_told 62 = .ok (.iload_n 1, 1) := by decide +kernel
theorem d_X_told_63 : decode c_X_told 63 = .ok (.invokevirtual 45, 3) := by decide +kernel
theorem d_X_told_66 : decode c_X_told 66 = .ok (.ifCond .eq 12, 3) := by decide +kernel
theorem d_X_told_69 : decode c_X_told 69 = .ok (.aload_n 0, 1) := by decide +kernel
theorem d_X_told_70 : decode c_X_told 70 = .ok (.getfield 13, 3) := by decide +kernel
theorem d_X_told_73 : decode c_X_told 73 = .ok (.iload_n 1, 1) := by decide +kernel
theorem d_X_told_74 : decode c_X_told 74 = .ok (.laload, 1) := by decide +kernel
theorem d_X_told_75 : decode c_X_told 75 = .ok (.goto 6, 3) := by decide +kernel
theorem d_X_told_78 : decode c_X_told 78 = .ok (.ldc2_w 135, 3) := by decide +kernel
theorem d_X_told_81 : decode c_X_told 81 = .ok (.lreturn, 1) := by decide +kernel
theorem d_X_told_82 : decode c_X_told 82 = .ok (.aload_n 0, 1) := by decide +kernel
theorem d_X_told_83 : decode c_X_told 83 = .ok (.iload_n 1, 1) := by decide +kernel
theorem d_X_told_84 : decode c_X_told 84 = .ok (.invokevirtual 45, 3) := by decide +kernel
theorem d_X_told_87 : decode c_X_told 87 = .ok (.ifCond .eq 13, 3) := by decide +kernel
theorem d_X_told_90 : decode c_X_told 90 = .ok (.aload_n 0, 1) := by decide +kernel
theorem d_X_told_91 : decode c_X_told 91 = .ok (.getfield 16, 3) := by decide +kernel
theorem d_X_told_94 : decode c_X_told 94 = .ok (.iload_n 1, 1) := by decide +kernel
theorem d_X_told_95 : decode c_X_told 95 = .ok (.iaload, 1) := by decide +kernel
theorem d_X_told_96 : decode c_X_told 96 = .ok (.i2l, 1) := by decide +kernel
theorem d_X_told_97 : decode c_X_told 97 = .ok (.goto 6, 3) := by decide +kernel
theorem d_X_told_100 : decode c_X_told 100 = .ok (.ldc2_w 135, 3) := by decide +kernel
theorem d_X_told_103 : decode c_X_told 103 = .ok (.lreturn, 1) := by decide +kernel
theorem d_X_told_104 : decode c_X_told 104 = .ok (.aload_n 0, 1) := by decide +kernel
theorem d_X_told_105 : decode c_X_told 105 = .ok (.getfield 137, 3) := by decide +kernel
theorem d_X_told_108 : decode c_X_told 108 = .ok (.i2l, 1) := by decide +kernel
theorem d_X_told_109 : decode c_X_told 109 = .ok (.lreturn, 1) := by decide +kernel
theorem d_X_told_110 : decode c_X_told 110 = .ok (.aload_n 0, 1) := by decide +kernel
theorem d_X_told_111 : decode c_X_told 111 = .ok (.getfield 104, 3) := by decide +kernel
theorem d_X_told_114 : decode c_X_told 114 = .ok (.i2l, 1) := by decide +kernel
theorem d_X_told_115 : decode c_X_told 115 = .ok (.lreturn, 1) := by decide +kernel
theorem d_X_told_116 : decode c_X_told 116 = .ok (.aload_n 0, 1) := by decide +kernel
theorem d_X_told_117 : decode c_X_told 117 = .ok (.iload_n 1, 1) := by decide +kernel
theorem d_X_told_118 : decode c_X_told 118 = .ok (.invokevirtual 71, 3) := by decide +kernel
theorem d_X_told_121 : decode c_X_told 121 = .ok (.astore_n 3, 1) := by decide +kernel
theorem d_X_told_122 : decode c_X_told 122 = .ok (.aload_n 3, 1) := by decide +kernel
theorem d_X_told_123 : decode c_X_told 123 = .ok (.ifnonnull 9, 3) := by decide +kernel
theorem d_X_told_126 : decode c_X_told 126 = .ok (.ldc2_w 135, 3) := by decide +kernel
theorem d_X_told_129 : decode c_X_told 129 = .ok (.goto 8, 3) := by decide +kernel
theorem d_X_told_132 : decode c_X_told 132 = .ok (.aload_n 3, 1) := by decide +kernel
theorem d_X_told_133 : decode c_X_told 133 = .ok (.getfield 83, 3) := by decide +kernel
theorem d_X_told_136 : decode c_X_told 136 = .ok (.i2l, 1) := by decide +kernel
theorem d_X_told_137 : decode c_X_told 137 = .ok (.lreturn, 1) := by decide +kernel
theorem d_X_told_138 : decode c_X_told 138 = .ok (.ldc2_w 135, 3) := by decide +kernel
theorem d_X_told_141 : decode c_X_told 141 = .ok (.lreturn, 1) := by decide +kernel
theorem d_X_clear_0 : decode c_X_clear 0 = .ok (.aload_n 0, 1) := by decide +kernel
theorem d_X_clear_1 : decode c_X_clear 1 = .ok (.iconst 0, 1) := by decide +kernel
theorem d_X_clear_2 : decode c_X_clear 2 = .ok (.putfield 137, 3) := by decide +kernel
theorem d_X_clear_5 : decode c_X_clear 5 = .ok (.aload_n 0, 1) := by decide +kernel
theorem d_X_clear_6 : decode c_X_clear 6 = .ok (.iconst 0, 1) := by decide +kernel
theorem d_X_clear_7 : decode c_X_clear 7 = .ok (.putfield 104, 3) := by decide +kernel
theorem d_X_clear_10 : decode c_X_clear 10 = .ok (.iconst 0, 1) := by decide +kernel
theorem d_X_clear_11 : decode c_X_clear 11 = .ok (.istore_n 1, 1) := by decide +kernel
theorem d_X_clear_12 : decode c_X_clear 12 = .ok (.iload_n 1, 1) := by decide +kernel
theorem d_X_clear_13 : decode c_X_clear 13 = .ok (.iconst 4, 1) := by decide +kernel
theorem d_X_clear_14 : decode c_X_clear 14 = .ok (.if_icmp .ge 24, 3) := by decide +kernel
theorem d_X_clear_17 : decode c_X_clear 17 = .ok (.aload_n 0, 1) := by decide +kernel
theorem d_X_clear_18 : decode c_X_clear 18 = .ok (.iload_n 1, 1) := by decide +kernel
theorem d_X_clear_19 : decode c_X_clear 19 = .ok (.invokevirtual 71, 3) := by decide +kernel
theorem d_X_clear_22 : decode c_X_clear 22 = .ok (.astore_n 2, 1) := by decide +kernel
theorem d_X_clear_23 : decode c_X_clear 23 = .ok (.aload_n 2, 1) := by decide +kernel
theorem d_X_clear_24 : decode c_X_clear 24 = .ok (.ifnull 8, 3) := by decide +kernel
theorem d_X_clear_27 : decode c_X_clear 27 = .ok (.aload_n 2, 1) := by decide +kernel
theorem d_X_clear_28 : decode c_X_clear 28 = .ok (.iconst 0, 1) := by decide +kernel
theorem d_X_clear_29 : decode c_X_clear 29 = .ok (.putfield 83, 3) := by decide +kernel
theorem d_X_clear_32 : decode c_X_clear 32 = .ok (.iinc 1 1, 3) := by decide +kernel
theorem d_X_clear_35 : decode c_X_clear 35 = .ok (.goto (-23), 3) := by decide +kernel
theorem d_X_clear_38 : decode c_X_clear 38 = .ok (.return_, 1) := by decide +kernel
theorem d_X_isAmount_0 : decode c_X_isAmount 0 = .ok (.iload_n 1, 1) := by decide +kernel
theorem d_X_isAmount_1 : decode c_X_isAmount 1 = .ok (.ifCond .lt 15, 3) := by decide +kernel
theorem d_X_isAmount_4 : decode c_X_isAmount 4 = .ok (.iload_n 1, 1) := by decide +kernel
theorem d_X_isAmount_5 : decode c_X_isAmount 5 = .ok (.aload_n 0, 1) := by decide +kernel
theorem d_X_isAmount_6 : decode c_X_isAmount 6 = .ok (.getfield 137, 3) := by decide +kernel
theorem d_X_isAmount_9 : decode c_X_isAmount 9 = .ok (.if_icmp .ge 7, 3) := by decide +kernel
theorem d_X_isAmount_12 : decode c_X_isAmount 12 = .ok (.iconst 1, 1) := by decide +kernel
theorem d_X_isAmount_13 : decode c_X_isAmount 13 = .ok (.goto 4, 3) := by decide +kernel
theorem d_X_isAmount_16 : decode c_X_isAmount 16 = .ok (.iconst 0, 1) := by decide +kernel
theorem d_X_isAmount_17 : decode c_X_isAmount 17 = .ok (.ireturn, 1) := by decide +kernel
theorem d_X_tableAt_0 : decode c_X_tableAt 0 = .ok (.iload_n 1, 1) := by decide +kernel
theorem d_X_tableAt_1 : decode c_X_tableAt 1 = .ok (.ifCond .lt 17, 3) := by decide +kernel
theorem d_X_tableAt_4 : decode c_X_tableAt 4 = .ok (.iload_n 1, 1) := by decide +kernel
theorem d_X_tableAt_5 : decode c_X_tableAt 5 = .ok (.iconst 4, 1) := by decide +kernel
theorem d_X_tableAt_6 : decode c_X_tableAt 6 = .ok (.if_icmp .ge 12, 3) := by decide +kernel
theorem d_X_tableAt_9 : decode c_X_tableAt 9 = .ok (.aload_n 0, 1) := by decide +kernel
theorem d_X_tableAt_10 : decode c_X_tableAt 10 = .ok (.getfield 25, 3) := by decide +kernel
theorem d_X_tableAt_13 : decode c_X_tableAt 13 = .ok (.iload_n 1, 1) := by decide +kernel
theorem d_X_tableAt_14 : decode c_X_tableAt 14 = .ok (.aaload, 1) := by decide +kernel
theorem d_X_tableAt_15 : decode c_X_tableAt 15 = .ok (.goto 4, 3) := by decide +kernel
theorem d_X_tableAt_18 : decode c_X_tableAt 18 = .ok (.aconst_null, 1) := by decide +kernel
theorem d_X_tableAt_19 : decode c_X_tableAt 19 = .ok (.areturn, 1) := by decide +kernel
theorem d_X_isTooFar_0 : decode c_X_isTooFar 0 = .ok (.lload_n 0, 1) := by decide +kernel
theorem d_X_isTooFar_1 : decode c_X_isTooFar 1 = .ok (.ldc2_w 140, 3) := by decide +kernel
theorem d_X_isTooFar_4 : decode c_X_isTooFar 4 = .ok (.lcmp, 1) := by decide +kernel
theorem d_X_isTooFar_5 : decode c_X_isTooFar 5 = .ok (.ifCond .le 11, 3) := by decide +kernel
theorem d_X_isTooFar_8 : decode c_X_isTooFar 8 = .ok (.lload_n 0, 1) := by decide +kernel
theorem d_X_isTooFar_9 : decode c_X_isTooFar 9 = .ok (.ldc2_w 142, 3) := by decide +kernel
theorem d_X_isTooFar_12 : decode c_X_isTooFar 12 = .ok (.lcmp, 1) := by decide +kernel
theorem d_X_isTooFar_13 : decode c_X_isTooFar 13 = .ok (.ifCond .lt 7, 3) := by decide +kernel
theorem d_X_isTooFar_16 : decode c_X_isTooFar 16 = .ok (.iconst 1, 1) := by decide +kernel
theorem d_X_isTooFar_17 : decode c_X_isTooFar 17 = .ok (.goto 4, 3) := by decide +kernel
theorem d_X_isTooFar_20 : decode c_X_isTooFar 20 = .ok (.iconst 0, 1) := by decide +kernel
theorem d_X_isTooFar_21 : decode c_X_isTooFar 21 = .ok (.ireturn, 1) := by decide +kernel
theorem d_X_keep_0 : decode c_X_keep 0 = .ok (.lload_n 1, 1) := by decide +kernel
theorem d_X_keep_1 : decode c_X_keep 1 = .ok (.lload_n 3, 1) := by decide +kernel
theorem d_X_keep_2 : decode c_X_keep 2 = .ok (.invokestatic 144, 3) := by decide +kernel
theorem d_X_keep_5 : decode c_X_keep 5 = .ok (.lstore 6, 2) := by decide +kernel
theorem d_X_keep_7 : decode c_X_keep 7 = .ok (.lload 6, 2) := by decide +kernel
theorem d_X_keep_9 : decode c_X_keep 9 = .ok (.lconst 1, 1) := by decide +kernel
theorem d_X_keep_10 : decode c_X_keep 10 = .ok (.lcmp, 1) := by decide +kernel
theorem d_X_keep_11 : decode c_X_keep 11 = .ok (.ifCond .lt 13, 3) := by decide +kernel
theorem d_X_keep_14 : decode c_X_keep 14 = .ok (.aload_n 0, 1) := by decide +kernel
theorem d_X_keep_15 : decode c_X_keep 15 = .ok (.getfield 137, 3) := by decide +kernel
theorem d_X_keep_18 : decode c_X_keep 18 = .ok (.sipush 500, 3) := by decide +kernel
theorem d_X_keep_21 : decode c_X_keep 21 = .ok (.if_icmp .lt 6, 3) := by decide +kernel
theorem d_X_keep_24 : decode c_X_keep 24 = .ok (.bipush (-2), 2) := by decide +kernel
theorem d_X_keep_26 : decode c_X_keep 26 = .ok (.ireturn, 1) := by decide +kernel
theorem d_X_keep_27 : decode c_X_keep 27 = .ok (.lload_n 3, 1) := by decide +kernel
theorem d_X_keep_28 : decode c_X_keep 28 = .ok (.lconst 0, 1) := by decide +kernel
theorem d_X_keep_29 : decode c_X_keep 29 = .ok (.lcmp, 1) := by decide +kernel
theorem d_X_keep_30 : decode c_X_keep 30 = .ok (.ifCond .ge 9, 3) := by decide +kernel
theorem d_X_keep_33 : decode c_X_keep 33 = .ok (.lload 6, 2) := by decide +kernel
theorem d_X_keep_35 : decode c_X_keep 35 = .ok (.lneg, 1) := by decide +kernel
theorem d_X_keep_36 : decode c_X_keep 36 = .ok (.goto 5, 3) := by decide +kernel
theorem d_X_keep_39 : decode c_X_keep 39 = .ok (.lload 6, 2) := by decide +kernel
theorem d_X_keep_41 : decode c_X_keep 41 = .ok (.lstore 8, 2) := by decide +kernel
theorem d_X_keep_43 : decode c_X_keep 43 = .ok (.lload_n 1, 1) := by decide +kernel
theorem d_X_keep_44 : decode c_X_keep 44 = .ok (.lload 8, 2) := by decide +kernel
theorem d_X_keep_46 : decode c_X_keep 46 = .ok (.ldiv, 1) := by decide +kernel
theorem d_X_keep_47 : decode c_X_keep 47 = .ok (.lstore 10, 2) := by decide +kernel
theorem d_X_keep_49 : decode c_X_keep 49 = .ok (.lload_n 3, 1) := by decide +kernel
theorem d_X_keep_50 : decode c_X_keep 50 = .ok (.lload 8, 2) := by decide +kernel
theorem d_X_keep_52 : decode c_X_keep 52 = .ok (.ldiv, 1) := by decide +kernel
theorem d_X_keep_53 : decode c_X_keep 53 = .ok (.lstore 12, 2) := by decide +kernel
theorem d_X_keep_55 : decode c_X_keep 55 = .ok (.lload 10, 2) := by decide +kernel
theorem d_X_keep_57 : decode c_X_keep 57 = .ok (.ldc2_w 147, 3) := by decide +kernel
theorem d_X_keep_60 : decode c_X_keep 60 = .ok (.lcmp, 1) := by decide +kernel
theorem d_X_keep_61 : decode c_X_keep 61 = .ok (.ifCond .lt 28, 3) := by decide +kernel
theorem d_X_keep_64 : decode c_X_keep 64 = .ok (.lload 10, 2) := by decide +kernel
theorem d_X_keep_66 : decode c_X_keep 66 = .ok (.ldc2_w 149, 3) := by decide +kernel
theorem d_X_keep_69 : decode c_X_keep 69 = .ok (.lcmp, 1) := by decide +kernel
theorem d_X_keep_70 : decode c_X_keep 70 = .ok (.ifCond .gt 19, 3) := by decide +kernel
theorem d_X_keep_73 : decode c_X_keep 73 = .ok (.lload 12, 2) := by decide +kernel
theorem d_X_keep_75 : decode c_X_keep 75 = .ok (.lconst 1, 1) := by decide +kernel
theorem d_X_keep_76 : decode c_X_keep 76 = .ok (.lcmp, 1) := by decide +kernel
theorem d_X_keep_77 : decode c_X_keep 77 = .ok (.ifCond .lt 12, 3) := by decide +kernel
theorem d_X_keep_80 : decode c_X_keep 80 = .ok (.lload 12, 2) := by decide +kernel
theorem d_X_keep_82 : decode c_X_keep 82 = .ok (.ldc2_w 149, 3) := by decide +kernel
theorem d_X_keep_85 : decode c_X_keep 85 = .ok (.lcmp, 1) := by decide +kernel
theorem d_X_keep_86 : decode c_X_keep 86 = .ok (.ifCond .le 6, 3) := by decide +kernel
theorem d_X_keep_89 : decode c_X_keep 89 = .ok (.bipush (-2), 2) := by decide +kernel
theorem d_X_keep_91 : decode c_X_keep 91 = .ok (.ireturn, 1) := by decide +kernel
theorem d_X_keep_92 : decode c_X_keep 92 = .ok (.aload_n 0, 1) := by decide +kernel
theorem d_X_keep_93 : decode c_X_keep 93 = .ok (.getfield 9, 3) := by decide +kernel
theorem d_X_keep_96 : decode c_X_keep 96 = .ok (.aload_n 0, 1) := by decide +kernel
theorem d_X_keep_97 : decode c_X_keep 97 = .ok (.getfield 137, 3) := by decide +kernel
theorem d_X_keep_100 : decode c_X_keep 100 = .ok (.lload 10, 2) := by decide +kernel
theorem d_X_keep_102 : decode c_X_keep 102 = .ok (.lastore, 1) := by decide +kernel
theorem d_X_keep_103 : decode c_X_keep 103 = .ok (.aload_n 0, 1) := by decide +kernel
theorem d_X_keep_104 : decode c_X_keep 104 = .ok (.getfield 13, 3) := by decide +kernel
theorem d_X_keep_107 : decode c_X_keep 107 = .ok (.aload_n 0, 1) := by decide +kernel
theorem d_X_keep_108 : decode c_X_keep 108 = .ok (.getfield 137, 3) := by decide +kernel
theorem d_X_keep_111 : decode c_X_keep 111 = .ok (.lload 12, 2) := by decide +kernel
theorem d_X_keep_113 : decode c_X_keep 113 = .ok (.lastore, 1) := by decide +kernel
theorem d_X_keep_114 : decode c_X_keep 114 = .ok (.aload_n 0, 1) := by decide +kernel
theorem d_X_keep_115 : decode c_X_keep 115 = .ok (.getfield 16, 3) := by decide +kernel
theorem d_X_keep_118 : decode c_X_keep 118 = .ok (.aload_n 0, 1) := by decide +kernel
theorem d_X_keep_119 : decode c_X_keep 119 = .ok (.getfield 137, 3) := by decide +kernel
theorem d_X_keep_122 : decode c_X_keep 122 = .ok (.iload 5, 2) := by decide +kernel
theorem d_X_keep_124 : decode c_X_keep 124 = .ok (.iastore, 1) := by decide +kernel
theorem d_X_keep_125 : decode c_X_keep 125 = .ok (.aload_n 0, 1) := by decide +kernel
theorem d_X_keep_126 : decode c_X_keep 126 = .ok (.dup, 1) := by decide +kernel
theorem d_X_keep_127 : decode c_X_keep 127 = .ok (.getfield 137, 3) := by decide +kernel
theorem d_X_keep_130 : decode c_X_keep 130 = .ok (.iconst 1, 1) := by decide +kernel
theorem d_X_keep_131 : decode c_X_keep 131 = .ok (.iadd, 1) := by decide +kernel
theorem d_X_keep_132 : decode c_X_keep 132 = .ok (.putfield 137, 3) := by decide +kernel
theorem d_X_keep_135 : decode c_X_keep 135 = .ok (.aload_n 0, 1) := by decide +kernel
theorem d_X_keep_136 : decode c_X_keep 136 = .ok (.getfield 137, 3) := by decide +kernel
theorem d_X_keep_139 : decode c_X_keep 139 = .ok (.iconst 1, 1) := by decide +kernel
theorem d_X_keep_140 : decode c_X_keep 140 = .ok (.isub, 1) := by decide +kernel
theorem d_X_keep_141 : decode c_X_keep 141 = .ok (.ireturn, 1) := by decide +kernel
theorem d_X_commonDivisor_0 : decode c_X_commonDivisor 0 = .ok (.lload_n 0, 1) := by decide +kernel
theorem d_X_commonDivisor_1 : decode c_X_commonDivisor 1 = .ok (.invokestatic 117, 3) := by decide +kernel
theorem d_X_commonDivisor_4 : decode c_X_commonDivisor 4 = .ok (.lstore 4, 2) := by decide +kernel
theorem d_X_commonDivisor_6 : decode c_X_commonDivisor 6 = .ok (.lload_n 2, 1) := by decide +kernel
theorem d_X_commonDivisor_7 : decode c_X_commonDivisor 7 = .ok (.invokestatic 117, 3) := by decide +kernel
theorem d_X_commonDivisor_10 : decode c_X_commonDivisor 10 = .ok (.lstore 6, 2) := by decide +kernel
theorem d_X_commonDivisor_12 : decode c_X_commonDivisor 12 = .ok (.iconst 0, 1) := by decide +kernel
theorem d_X_commonDivisor_13 : decode c_X_commonDivisor 13 = .ok (.istore 8, 2) := by decide +kernel
theorem d_X_commonDivisor_15 : decode c_X_commonDivisor 15 = .ok (.iload 8, 2) := by decide +kernel
theorem d_X_commonDivisor_17 : decode c_X_commonDivisor 17 = .ok (.sipush 1000, 3) := by decide +kernel
theorem d_X_commonDivisor_20 : decode c_X_commonDivisor 20 = .ok (.if_icmp .ge 31, 3) := by decide +kernel
theorem d_X_commonDivisor_23 : decode c_X_commonDivisor 23 = .ok (.lload 6, 2) := by decide +kernel
theorem d_X_commonDivisor_25 : decode c_X_commonDivisor 25 = .ok (.lconst 0, 1) := by decide +kernel
theorem d_X_commonDivisor_26 : decode c_X_commonDivisor 26 = .ok (.lcmp, 1) := by decide +kernel
theorem d_X_commonDivisor_27 : decode c_X_commonDivisor 27 = .ok (.ifCond .eq 24, 3) := by decide +kernel
theorem d_X_commonDivisor_30 : decode c_X_commonDivisor 30 = .ok (.lload 4, 2) := by decide +kernel
theorem d_X_commonDivisor_32 : decode c_X_commonDivisor 32 = .ok (.lload 6, 2) := by decide +kernel
theorem d_X_commonDivisor_34 : decode c_X_commonDivisor 34 = .ok (.lrem, 1) := by decide +kernel
theorem d_X_commonDivisor_35 : decode c_X_commonDivisor 35 = .ok (.lstore 9, 2) := by decide +kernel
theorem d_X_commonDivisor_37 : decode c_X_commonDivisor 37 = .ok (.lload 6, 2) := by decide +kernel
theorem d_X_commonDivisor_39 : decode c_X_commonDivisor 39 = .ok (.lstore 4, 2) := by decide +kernel
theorem d_X_commonDivisor_41 : decode c_X_commonDivisor 41 = .ok (.lload 9, 2) := by decide +kernel
theorem d_X_commonDivisor_43 : decode c_X_commonDivisor 43 = .ok (.lstore 6, 2) := by decide +kernel
theorem d_X_commonDivisor_45 : decode c_X_commonDivisor 45 = .ok (.iinc 8 1, 3) := by decide +kernel
theorem d_X_commonDivisor_48 : decode c_X_commonDivisor 48 = .ok (.goto (-33), 3) := by decide +kernel
theorem d_X_commonDivisor_51 : decode c_X_commonDivisor 51 = .ok (.lload 4, 2) := by decide +kernel
theorem d_X_commonDivisor_53 : decode c_X_commonDivisor 53 = .ok (.lreturn, 1) := by decide +kernel
theorem d_X_quotientDown_0 : decode c_X_quotientDown 0 = .ok (.lload_n 2, 1) := by decide +kernel
theorem d_X_quotientDown_1 : decode c_X_quotientDown 1 = .ok (.lconst 1, 1) := by decide +kernel
theorem d_X_quotientDown_2 : decode c_X_quotientDown 2 = .ok (.lcmp, 1) := by decide +kernel
theorem d_X_quotientDown_3 : decode c_X_quotientDown 3 = .ok (.ifCond .ge 7, 3) := by decide +kernel
theorem d_X_quotientDown_6 : decode c_X_quotientDown 6 = .ok (.lconst 0, 1) := by decide +kernel
theorem d_X_quotientDown_7 : decode c_X_quotientDown 7 = .ok (.goto 8, 3) := by decide +kernel
theorem d_X_quotientDown_10 : decode c_X_quotientDown 10 = .ok (.lload_n 0, 1) := by decide +kernel
theorem d_X_quotientDown_11 : decode c_X_quotientDown 11 = .ok (.lload_n 2, 1) := by decide +kernel
theorem d_X_quotientDown_12 : decode c_X_quotientDown 12 = .ok (.invokestatic 151, 3) := by decide +kernel
theorem d_X_quotientDown_15 : decode c_X_quotientDown 15 = .ok (.lreturn, 1) := by decide +kernel
theorem d_X_restOf_0 : decode c_X_restOf 0 = .ok (.lload_n 2, 1) := by decide +kernel
theorem d_X_restOf_1 : decode c_X_restOf 1 = .ok (.lconst 1, 1) := by decide +kernel
theorem d_X_restOf_2 : decode c_X_restOf 2 = .ok (.lcmp, 1) := by decide +kernel
theorem d_X_restOf_3 : decode c_X_restOf 3 = .ok (.ifCond .ge 7, 3) := by decide +kernel
theorem d_X_restOf_6 : decode c_X_restOf 6 = .ok (.lconst 0, 1) := by decide +kernel
theorem d_X_restOf_7 : decode c_X_restOf 7 = .ok (.goto 8, 3) := by decide +kernel
theorem d_X_restOf_10 : decode c_X_restOf 10 = .ok (.lload_n 0, 1) := by decide +kernel
theorem d_X_restOf_11 : decode c_X_restOf 11 = .ok (.lload_n 2, 1) := by decide +kernel
theorem d_X_restOf_12 : decode c_X_restOf 12 = .ok (.invokestatic 154, 3) := by decide +kernel
theorem d_X_restOf_15 : decode c_X_restOf 15 = .ok (.lreturn, 1) := by decide +kernel
theorem d_X_unitOfProduct_0 : decode c_X_unitOfProduct 0 = .ok (.iload_n 0, 1) := by decide +kernel
theorem d_X_unitOfProduct_1 : decode c_X_unitOfProduct 1 = .ok (.ifCond .eq 11, 3) := by decide +kernel
theorem d_X_unitOfProduct_4 : decode c_X_unitOfProduct 4 = .ok (.iload_n 0, 1) := by decide +kernel
theorem d_X_unitOfProduct_5 : decode c_X_unitOfProduct 5 = .ok (.iload_n 1, 1) := by decide +kernel
theorem d_X_unitOfProduct_6 : decode c_X_unitOfProduct 6 = .ok (.invokestatic 157, 3) := by decide +kernel
theorem d_X_unitOfProduct_9 : decode c_X_unitOfProduct 9 = .ok (.ifCond .eq 5, 3) := by decide +kernel
theorem d_X_unitOfProduct_12 : decode c_X_unitOfProduct 12 = .ok (.iload_n 1, 1) := by decide +kernel
theorem d_X_unitOfProduct_13 : decode c_X_unitOfProduct 13 = .ok (.ireturn, 1) := by decide +kernel
theorem d_X_unitOfProduct_14 : decode c_X_unitOfProduct 14 = .ok (.iload_n 1, 1) := by decide +kernel
theorem d_X_unitOfProduct_15 : decode c_X_unitOfProduct 15 = .ok (.ifCond .eq 11, 3) := by decide +kernel
theorem d_X_unitOfProduct_18 : decode c_X_unitOfProduct 18 = .ok (.iload_n 1, 1) := by decide +kernel
theorem d_X_unitOfProduct_19 : decode c_X_unitOfProduct 19 = .ok (.iload_n 0, 1) := by decide +kernel
theorem d_X_unitOfProduct_20 : decode c_X_unitOfProduct 20 = .ok (.invokestatic 157, 3) := by decide +kernel
theorem d_X_unitOfProduct_23 : decode c_X_unitOfProduct 23 = .ok (.ifCond .eq 5, 3) := by decide +kernel
theorem d_X_unitOfProduct_26 : decode c_X_unitOfProduct 26 = .ok (.iload_n 0, 1) := by decide +kernel
theorem d_X_unitOfProduct_27 : decode c_X_unitOfProduct 27 = .ok (.ireturn, 1) := by decide +kernel
theorem d_X_unitOfProduct_28 : decode c_X_unitOfProduct 28 = .ok (.iconst (-1), 1) := by decide +kernel
theorem d_X_unitOfProduct_29 : decode c_X_unitOfProduct 29 = .ok (.ireturn, 1) := by decide +kernel
theorem d_X_unitOfQuotient_0 : decode c_X_unitOfQuotient 0 = .ok (.iload_n 0, 1) := by decide +kernel
theorem d_X_unitOfQuotient_1 : decode c_X_unitOfQuotient 1 = .ok (.iload_n 1, 1) := by decide +kernel
theorem d_X_unitOfQuotient_2 : decode c_X_unitOfQuotient 2 = .ok (.if_icmp .ne 5, 3) := by decide +kernel
theorem d_X_unitOfQuotient_5 : decode c_X_unitOfQuotient 5 = .ok (.iconst 0, 1) := by decide +kernel
theorem d_X_unitOfQuotient_6 : decode c_X_unitOfQuotient 6 = .ok (.ireturn, 1) := by decide +kernel
theorem d_X_unitOfQuotient_7 : decode c_X_unitOfQuotient 7 = .ok (.iload_n 1, 1) := by decide +kernel
theorem d_X_unitOfQuotient_8 : decode c_X_unitOfQuotient 8 = .ok (.ifCond .eq 11, 3) := by decide +kernel
theorem d_X_unitOfQuotient_11 : decode c_X_unitOfQuotient 11 = .ok (.iload_n 1, 1) := by decide +kernel
theorem d_X_unitOfQuotient_12 : decode c_X_unitOfQuotient 12 = .ok (.iload_n 0, 1) := by decide +kernel
theorem d_X_unitOfQuotient_13 : decode c_X_unitOfQuotient 13 = .ok (.invokestatic 157, 3) := by decide +kernel
theorem d_X_unitOfQuotient_16 : decode c_X_unitOfQuotient 16 = .ok (.ifCond .eq 5, 3) := by decide +kernel
theorem d_X_unitOfQuotient_19 : decode c_X_unitOfQuotient 19 = .ok (.iload_n 0, 1) := by decide +kernel
theorem d_X_unitOfQuotient_20 : decode c_X_unitOfQuotient 20 = .ok (.ireturn, 1) := by decide +kernel
theorem d_X_unitOfQuotient_21 : decode c_X_unitOfQuotient 21 = .ok (.iconst (-1), 1) := by decide +kernel
theorem d_X_unitOfQuotient_22 : decode c_X_unitOfQuotient 22 = .ok (.ireturn, 1) := by decide +kernel
theorem d_X_isShareOf_0 : decode c_X_isShareOf 0 = .ok (.iload_n 0, 1) := by decide +kernel
theorem d_X_isShareOf_1 : decode c_X_isShareOf 1 = .ok (.iconst 3, 1) := by decide +kernel
theorem d_X_isShareOf_2 : decode c_X_isShareOf 2 = .ok (.if_icmp .ne 8, 3) := by decide +kernel
theorem d_X_isShareOf_5 : decode c_X_isShareOf 5 = .ok (.iload_n 1, 1) := by decide +kernel
theorem d_X_isShareOf_6 : decode c_X_isShareOf 6 = .ok (.iconst 2, 1) := by decide +kernel
theorem d_X_isShareOf_7 : decode c_X_isShareOf 7 = .ok (.if_icmp .eq 13, 3) := by decide +kernel
theorem d_X_isShareOf_10 : decode c_X_isShareOf 10 = .ok (.iload_n 0, 1) := by decide +kernel
theorem d_X_isShareOf_11 : decode c_X_isShareOf 11 = .ok (.iconst 4, 1) := by decide +kernel
theorem d_X_isShareOf_12 : decode c_X_isShareOf 12 = .ok (.if_icmp .ne 12, 3) := by decide +kernel
theorem d_X_isShareOf_15 : decode c_X_isShareOf 15 = .ok (.iload_n 1, 1) := by decide +kernel
theorem d_X_isShareOf_16 : decode c_X_isShareOf 16 = .ok (.iconst 1, 1) := by decide +kernel
theorem d_X_isShareOf_17 : decode c_X_isShareOf 17 = .ok (.if_icmp .ne 7, 3) := by decide +kernel
theorem d_X_isShareOf_20 : decode c_X_isShareOf 20 = .ok (.iconst 1, 1) := by decide +kernel
theorem d_X_isShareOf_21 : decode c_X_isShareOf 21 = .ok (.goto 4, 3) := by decide +kernel
theorem d_X_isShareOf_24 : decode c_X_isShareOf 24 = .ok (.iconst 0, 1) := by decide +kernel
theorem d_X_isShareOf_25 : decode c_X_isShareOf 25 = .ok (.ireturn, 1) := by decide +kernel
theorem d_X_goesUp_0 : decode c_X_goesUp 0 = .ok (.lload_n 3, 1) := by decide +kernel
theorem d_X_goesUp_1 : decode c_X_goesUp 1 = .ok (.lconst 0, 1) := by decide +kernel
theorem d_X_goesUp_2 : decode c_X_goesUp 2 = .ok (.lcmp, 1) := by decide +kernel
theorem d_X_goesUp_3 : decode c_X_goesUp 3 = .ok (.ifCond .ne 5, 3) := by decide +kernel
theorem d_X_goesUp_6 : decode c_X_goesUp 6 = .ok (.iconst 0, 1) := by decide +kernel
theorem d_X_goesUp_7 : decode c_X_goesUp 7 = .ok (.ireturn, 1) := by decide +kernel
theorem d_X_goesUp_8 : decode c_X_goesUp 8 = .ok (.ldc2_w 161, 3) := by decide +kernel
theorem d_X_goesUp_11 : decode c_X_goesUp 11 = .ok (.lload_n 3, 1) := by decide +kernel
theorem d_X_goesUp_12 : decode c_X_goesUp 12 = .ok (.lmul, 1) := by decide +kernel
theorem d_X_goesUp_13 : decode c_X_goesUp 13 = .ok (.lload 5, 2) := by decide +kernel
theorem d_X_goesUp_15 : decode c_X_goesUp 15 = .ok (.invokestatic 163, 3) := by decide +kernel
theorem d_X_goesUp_18 : decode c_X_goesUp 18 = .ok (.istore 7, 2) := by decide +kernel
theorem d_X_goesUp_20 : decode c_X_goesUp 20 = .ok (.iload_n 0, 1) := by decide +kernel
theorem d_X_goesUp_21 : decode c_X_goesUp 21 = .ok (.tableswitch 122 1 6 #[39, 41, 53, 65, 76, 98], 39) := by decide +kernel
theorem d_X_goesUp_60 : decode c_X_goesUp 60 = .ok (.iconst 1, 1) := by decide +kernel
theorem d_X_goesUp_61 : decode c_X_goesUp 61 = .ok (.ireturn, 1) := by decide +kernel
theorem d_X_goesUp_62 : decode c_X_goesUp 62 = .ok (.lload_n 1, 1) := by decide +kernel
theorem d_X_goesUp_63 : decode c_X_goesUp 63 = .ok (.lconst 0, 1) := by decide +kernel
theorem d_X_goesUp_64 : decode c_X_goesUp 64 = .ok (.lcmp, 1) := by decide +kernel
theorem d_X_goesUp_65 : decode c_X_goesUp 65 = .ok (.ifCond .ge 7, 3) := by decide +kernel
theorem d_X_goesUp_68 : decode c_X_goesUp 68 = .ok (.iconst 1, 1) := by decide +kernel
theorem d_X_goesUp_69 : decode c_X_goesUp 69 = .ok (.goto 4, 3) := by decide +kernel
theorem d_X_goesUp_72 : decode c_X_goesUp 72 = .ok (.iconst 0, 1) := by decide +kernel
theorem d_X_goesUp_73 : decode c_X_goesUp 73 = .ok (.ireturn, 1) := by decide +kernel
theorem d_X_goesUp_74 : decode c_X_goesUp 74 = .ok (.lload_n 1, 1) := by decide +kernel
theorem d_X_goesUp_75 : decode c_X_goesUp 75 = .ok (.lconst 0, 1) := by decide +kernel
theorem d_X_goesUp_76 : decode c_X_goesUp 76 = .ok (.lcmp, 1) := by decide +kernel
theorem d_X_goesUp_77 : decode c_X_goesUp 77 = .ok (.ifCond .lt 7, 3) := by decide +kernel
theorem d_X_goesUp_80 : decode c_X_goesUp 80 = .ok (.iconst 1, 1) := by decide +kernel
theorem d_X_goesUp_81 : decode c_X_goesUp 81 = .ok (.goto 4, 3) := by decide +kernel
theorem d_X_goesUp_84 : decode c_X_goesUp 84 = .ok (.iconst 0, 1) := by decide +kernel
theorem d_X_goesUp_85 : decode c_X_goesUp 85 = .ok (.ireturn, 1) := by decide +kernel
theorem d_X_goesUp_86 : decode c_X_goesUp 86 = .ok (.iload 7, 2) := by decide +kernel
theorem d_X_goesUp_88 : decode c_X_goesUp 88 = .ok (.ifCond .lt 7, 3) := by decide +kernel
theorem d_X_goesUp_91 : decode c_X_goesUp 91 = .ok (.iconst 1, 1) := by decide +kernel
theorem d_X_goesUp_92 : decode c_X_goesUp 92 = .ok (.goto 4, 3) := by decide +kernel
theorem d_X_goesUp_95 : decode c_X_goesUp 95 = .ok (.iconst 0, 1) := by decide +kernel
theorem d_X_goesUp_96 : decode c_X_goesUp 96 = .ok (.ireturn, 1) := by decide +kernel
theorem d_X_goesUp_97 : decode c_X_goesUp 97 = .ok (.iload 7, 2) := by decide +kernel
theorem d_X_goesUp_99 : decode c_X_goesUp 99 = .ok (.ifCond .gt 14, 3) := by decide +kernel
theorem d_X_goesUp_102 : decode c_X_goesUp 102 = .ok (.iload 7, 2) := by decide +kernel
theorem d_X_goesUp_104 : decode c_X_goesUp 104 = .ok (.ifCond .ne 13, 3) := by decide +kernel
theorem d_X_goesUp_107 : decode c_X_goesUp 107 = .ok (.lload_n 1, 1) := by decide +kernel
theorem d_X_goesUp_108 : decode c_X_goesUp 108 = .ok (.lconst 0, 1) := by decide +kernel
theorem d_X_goesUp_109 : decode c_X_goesUp 109 = .ok (.lcmp, 1) := by decide +kernel
theorem d_X_goesUp_110 : decode c_X_goesUp 110 = .ok (.ifCond .lt 7, 3) := by decide +kernel
theorem d_X_goesUp_113 : decode c_X_goesUp 113 = .ok (.iconst 1, 1) := by decide +kernel
theorem d_X_goesUp_114 : decode c_X_goesUp 114 = .ok (.goto 4, 3) := by decide +kernel
theorem d_X_goesUp_117 : decode c_X_goesUp 117 = .ok (.iconst 0, 1) := by decide +kernel
theorem d_X_goesUp_118 : decode c_X_goesUp 118 = .ok (.ireturn, 1) := by decide +kernel
theorem d_X_goesUp_119 : decode c_X_goesUp 119 = .ok (.iload 7, 2) := by decide +kernel
theorem d_X_goesUp_121 : decode c_X_goesUp 121 = .ok (.ifCond .gt 16, 3) := by decide +kernel
theorem d_X_goesUp_124 : decode c_X_goesUp 124 = .ok (.iload 7, 2) := by decide +kernel
theorem d_X_goesUp_126 : decode c_X_goesUp 126 = .ok (.ifCond .ne 15, 3) := by decide +kernel
theorem d_X_goesUp_129 : decode c_X_goesUp 129 = .ok (.lload_n 1, 1) := by decide +kernel
theorem d_X_goesUp_130 : decode c_X_goesUp 130 = .ok (.lconst 1, 1) := by decide +kernel
theorem d_X_goesUp_131 : decode c_X_goesUp 131 = .ok (.land, 1) := by decide +kernel
theorem d_X_goesUp_132 : decode c_X_goesUp 132 = .ok (.lconst 1, 1) := by decide +kernel
theorem d_X_goesUp_133 : decode c_X_goesUp 133 = .ok (.lcmp, 1) := by decide +kernel
theorem d_X_goesUp_134 : decode c_X_goesUp 134 = .ok (.ifCond .ne 7, 3) := by decide +kernel
theorem d_X_goesUp_137 : decode c_X_goesUp 137 = .ok (.iconst 1, 1) := by decide +kernel
theorem d_X_goesUp_138 : decode c_X_goesUp 138 = .ok (.goto 4, 3) := by decide +kernel
theorem d_X_goesUp_141 : decode c_X_goesUp 141 = .ok (.iconst 0, 1) := by decide +kernel
theorem d_X_goesUp_142 : decode c_X_goesUp 142 = .ok (.ireturn, 1) := by decide +kernel
theorem d_X_goesUp_143 : decode c_X_goesUp 143 = .ok (.iconst 0, 1) := by decide +kernel
theorem d_X_goesUp_144 : decode c_X_goesUp 144 = .ok (.ireturn, 1) := by decide +kernel
theorem d_X_keepBetween_0 : decode c_X_keepBetween 0 = .ok (.aload_n 1, 1) := by decide +kernel
theorem d_X_keepBetween_1 : decode c_X_keepBetween 1 = .ok (.getfield 168, 3) := by decide +kernel
theorem d_X_keepBetween_4 : decode c_X_keepBetween 4 = .ok (.iload_n 2, 1) := by decide +kernel
theorem d_X_keepBetween_5 : decode c_X_keepBetween 5 = .ok (.laload, 1) := by decide +kernel
theorem d_X_keepBetween_6 : decode c_X_keepBetween 6 = .ok (.aload_n 1, 1) := by decide +kernel
theorem d_X_keepBetween_7 : decode c_X_keepBetween 7 = .ok (.getfield 168, 3) := by decide +kernel
theorem d_X_keepBetween_10 : decode c_X_keepBetween 10 = .ok (.iload_n 2, 1) := by decide +kernel
theorem d_X_keepBetween_11 : decode c_X_keepBetween 11 = .ok (.iconst 1, 1) := by decide +kernel
theorem d_X_keepBetween_12 : decode c_X_keepBetween 12 = .ok (.isub, 1) := by decide +kernel
theorem d_X_keepBetween_13 : decode c_X_keepBetween 13 = .ok (.laload, 1) := by decide +kernel
theorem d_X_keepBetween_14 : decode c_X_keepBetween 14 = .ok (.lsub, 1) := by decide +kernel
theorem d_X_keepBetween_15 : decode c_X_keepBetween 15 = .ok (.lstore 4, 2) := by decide +kernel
theorem d_X_keepBetween_17 : decode c_X_keepBetween 17 = .ok (.aload_n 1, 1) := by decide +kernel
theorem d_X_keepBetween_18 : decode c_X_keepBetween 18 = .ok (.getfield 91, 3) := by decide +kernel
theorem d_X_keepBetween_21 : decode c_X_keepBetween 21 = .ok (.iload_n 2, 1) := by decide +kernel
theorem d_X_keepBetween_22 : decode c_X_keepBetween 22 = .ok (.laload, 1) := by decide +kernel
theorem d_X_keepBetween_23 : decode c_X_keepBetween 23 = .ok (.aload_n 1, 1) := by decide +kernel
theorem d_X_keepBetween_24 : decode c_X_keepBetween 24 = .ok (.getfield 91, 3) := by decide +kernel
theorem d_X_keepBetween_27 : decode c_X_keepBetween 27 = .ok (.iload_n 2, 1) := by decide +kernel
theorem d_X_keepBetween_28 : decode c_X_keepBetween 28 = .ok (.iconst 1, 1) := by decide +kernel
theorem d_X_keepBetween_29 : decode c_X_keepBetween 29 = .ok (.isub, 1) := by decide +kernel
theorem d_X_keepBetween_30 : decode c_X_keepBetween 30 = .ok (.laload, 1) := by decide +kernel
theorem d_X_keepBetween_31 : decode c_X_keepBetween 31 = .ok (.lsub, 1) := by decide +kernel
theorem d_X_keepBetween_32 : decode c_X_keepBetween 32 = .ok (.lstore 6, 2) := by decide +kernel
theorem d_X_keepBetween_34 : decode c_X_keepBetween 34 = .ok (.aload_n 0, 1) := by decide +kernel
theorem d_X_keepBetween_35 : decode c_X_keepBetween 35 = .ok (.getfield 9, 3) := by decide +kernel
theorem d_X_keepBetween_38 : decode c_X_keepBetween 38 = .ok (.iload_n 3, 1) := by decide +kernel
theorem d_X_keepBetween_39 : decode c_X_keepBetween 39 = .ok (.laload, 1) := by decide +kernel
theorem d_X_keepBetween_40 : decode c_X_keepBetween 40 = .ok (.aload_n 1, 1) := by decide +kernel
theorem d_X_keepBetween_41 : decode c_X_keepBetween 41 = .ok (.getfield 94, 3) := by decide +kernel
theorem d_X_keepBetween_44 : decode c_X_keepBetween 44 = .ok (.lmul, 1) := by decide +kernel
theorem d_X_keepBetween_45 : decode c_X_keepBetween 45 = .ok (.aload_n 1, 1) := by decide +kernel
theorem d_X_keepBetween_46 : decode c_X_keepBetween 46 = .ok (.getfield 168, 3) := by decide +kernel
theorem d_X_keepBetween_49 : decode c_X_keepBetween 49 = .ok (.iload_n 2, 1) := by decide +kernel
theorem d_X_keepBetween_50 : decode c_X_keepBetween 50 = .ok (.iconst 1, 1) := by decide +kernel
theorem d_X_keepBetween_51 : decode c_X_keepBetween 51 = .ok (.isub, 1) := by decide +kernel
theorem d_X_keepBetween_52 : decode c_X_keepBetween 52 = .ok (.laload, 1) := by decide +kernel
theorem d_X_keepBetween_53 : decode c_X_keepBetween 53 = .ok (.aload_n 0, 1) := by decide +kernel
theorem d_X_keepBetween_54 : decode c_X_keepBetween 54 = .ok (.getfield 13, 3) := by decide +kernel
theorem d_X_keepBetween_57 : decode c_X_keepBetween 57 = .ok (.iload_n 3, 1) := by decide +kernel
theorem d_X_keepBetween_58 : decode c_X_keepBetween 58 = .ok (.laload, 1) := by decide +kernel
theorem d_X_keepBetween_59 : decode c_X_keepBetween 59 = .ok (.lmul, 1) := by decide +kernel
theorem d_X_keepBetween_60 : decode c_X_keepBetween 60 = .ok (.lsub, 1) := by decide +kernel
theorem d_X_keepBetween_61 : decode c_X_keepBetween 61 = .ok (.lstore 8, 2) := by decide +kernel
theorem d_X_keepBetween_63 : decode c_X_keepBetween 63 = .ok (.aload_n 1, 1) := by decide +kernel
theorem d_X_keepBetween_64 : decode c_X_keepBetween 64 = .ok (.getfield 91, 3) := by decide +kernel
theorem d_X_keepBetween_67 : decode c_X_keepBetween 67 = .ok (.iload_n 2, 1) := by decide +kernel
theorem d_X_keepBetween_68 : decode c_X_keepBetween 68 = .ok (.iconst 1, 1) := by decide +kernel
theorem d_X_keepBetween_69 : decode c_X_keepBetween 69 = .ok (.isub, 1) := by decide +kernel
theorem d_X_keepBetween_70 : decode c_X_keepBetween 70 = .ok (.laload, 1) := by decide +kernel
theorem d_X_keepBetween_71 : decode c_X_keepBetween 71 = .ok (.lload 4, 2) := by decide +kernel
theorem d_X_keepBetween_73 : decode c_X_keepBetween 73 = .ok (.lmul, 1) := by decide +kernel
theorem d_X_keepBetween_74 : decode c_X_keepBetween 74 = .ok (.aload_n 0, 1) := by decide +kernel
theorem d_X_keepBetween_75 : decode c_X_keepBetween 75 = .ok (.getfield 13, 3) := by decide +kernel
theorem d_X_keepBetween_78 : decode c_X_keepBetween 78 = .ok (.iload_n 3, 1) := by decide +kernel
theorem d_X_keepBetween_79 : decode c_X_keepBetween 79 = .ok (.laload, 1) := by decide +kernel
theorem d_X_keepBetween_80 : decode c_X_keepBetween 80 = .ok (.lmul, 1) := by decide +kernel
theorem d_X_keepBetween_81 : decode c_X_keepBetween 81 = .ok (.lload 6, 2) := by decide +kernel
theorem d_X_keepBetween_83 : decode c_X_keepBetween 83 = .ok (.lload 8, 2) := by decide +kernel
theorem d_X_keepBetween_85 : decode c_X_keepBetween 85 = .ok (.lmul, 1) := by decide +kernel
theorem d_X_keepBetween_86 : decode c_X_keepBetween 86 = .ok (.ladd, 1) := by decide +kernel
theorem d_X_keepBetween_87 : decode c_X_keepBetween 87 = .ok (.lstore 10, 2) := by decide +kernel
theorem d_X_keepBetween_89 : decode c_X_keepBetween 89 = .ok (.aload_n 0, 1) := by decide +kernel
theorem d_X_keepBetween_90 : decode c_X_keepBetween 90 = .ok (.lload 10, 2) := by decide +kernel
theorem d_X_keepBetween_92 : decode c_X_keepBetween 92 = .ok (.lload 4, 2) := by decide +kernel
theorem d_X_keepBetween_94 : decode c_X_keepBetween 94 = .ok (.aload_n 0, 1) := by decide +kernel
theorem d_X_keepBetween_95 : decode c_X_keepBetween 95 = .ok (.getfield 13, 3) := by decide +kernel
theorem d_X_keepBetween_98 : decode c_X_keepBetween 98 = .ok (.iload_n 3, 1) := by decide +kernel
theorem d_X_keepBetween_99 : decode c_X_keepBetween 99 = .ok (.laload, 1) := by decide +kernel
theorem d_X_keepBetween_100 : decode c_X_keepBetween 100 = .ok (.lmul, 1) := by decide +kernel
theorem d_X_keepBetween_101 : decode c_X_keepBetween 101 = .ok (.aload_n 1, 1) := by decide +kernel
theorem d_X_keepBetween_102 : decode c_X_keepBetween 102 = .ok (.getfield 94, 3) := by decide +kernel
theorem d_X_keepBetween_105 : decode c_X_keepBetween 105 = .ok (.lmul, 1) := by decide +kernel
theorem d_X_keepBetween_106 : decode c_X_keepBetween 106 = .ok (.iconst 0, 1) := by decide +kernel
theorem d_X_keepBetween_107 : decode c_X_keepBetween 107 = .ok (.invokevirtual 41, 3) := by decide +kernel
theorem d_X_keepBetween_110 : decode c_X_keepBetween 110 = .ok (.ireturn, 1) := by decide +kernel
theorem d_X_sumOfWeights_0 : decode c_X_sumOfWeights 0 = .ok (.lconst 0, 1) := by decide +kernel
theorem d_X_sumOfWeights_1 : decode c_X_sumOfWeights 1 = .ok (.lstore_n 1, 1) := by decide +kernel
theorem d_X_sumOfWeights_2 : decode c_X_sumOfWeights 2 = .ok (.iconst 0, 1) := by decide +kernel
theorem d_X_sumOfWeights_3 : decode c_X_sumOfWeights 3 = .ok (.istore_n 3, 1) := by decide +kernel
theorem d_X_sumOfWeights_4 : decode c_X_sumOfWeights 4 = .ok (.iload_n 3, 1) := by decide +kernel
theorem d_X_sumOfWeights_5 : decode c_X_sumOfWeights 5 = .ok (.aload_n 0, 1) := by decide +kernel
theorem d_X_sumOfWeights_6 : decode c_X_sumOfWeights 6 = .ok (.getfield 104, 3) := by decide +kernel
theorem d_X_sumOfWeights_9 : decode c_X_sumOfWeights 9 = .ok (.if_icmp .ge 18, 3) := by decide +kernel
theorem d_X_sumOfWeights_12 : decode c_X_sumOfWeights 12 = .ok (.lload_n 1, 1) := by decide +kernel
theorem d_X_sumOfWeights_13 : decode c_X_sumOfWeights 13 = .ok (.aload_n 0, 1) := by decide +kernel
theorem d_X_sumOfWeights_14 : decode c_X_sumOfWeights 14 = .ok (.getfield 20, 3) := by decide +kernel
theorem d_X_sumOfWeights_17 : decode c_X_sumOfWeights 17 = .ok (.iload_n 3, 1) := by decide +kernel
theorem d_X_sumOfWeights_18 : decode c_X_sumOfWeights 18 = .ok (.laload, 1) := by decide +kernel
theorem d_X_sumOfWeights_19 : decode c_X_sumOfWeights 19 = .ok (.ladd, 1) := by decide +kernel
theorem d_X_sumOfWeights_20 : decode c_X_sumOfWeights 20 = .ok (.lstore_n 1, 1) := by decide +kernel
theorem d_X_sumOfWeights_21 : decode c_X_sumOfWeights 21 = .ok (.iinc 3 1, 3) := by decide +kernel
theorem d_X_sumOfWeights_24 : decode c_X_sumOfWeights 24 = .ok (.goto (-20), 3) := by decide +kernel
theorem d_X_sumOfWeights_27 : decode c_X_sumOfWeights 27 = .ok (.lload_n 1, 1) := by decide +kernel
theorem d_X_sumOfWeights_28 : decode c_X_sumOfWeights 28 = .ok (.lreturn, 1) := by decide +kernel
theorem d_X_thousandthsOf_0 : decode c_X_thousandthsOf 0 = .ok (.lload_n 2, 1) := by decide +kernel
theorem d_X_thousandthsOf_1 : decode c_X_thousandthsOf 1 = .ok (.aload_n 0, 1) := by decide +kernel
theorem d_X_thousandthsOf_2 : decode c_X_thousandthsOf 2 = .ok (.getfield 20, 3) := by decide +kernel
theorem d_X_thousandthsOf_5 : decode c_X_thousandthsOf 5 = .ok (.iload_n 1, 1) := by decide +kernel
theorem d_X_thousandthsOf_6 : decode c_X_thousandthsOf 6 = .ok (.laload, 1) := by decide +kernel
theorem d_X_thousandthsOf_7 : decode c_X_thousandthsOf 7 = .ok (.lmul, 1) := by decide +kernel
theorem d_X_thousandthsOf_8 : decode c_X_thousandthsOf 8 = .ok (.lstore 6, 2) := by decide +kernel
theorem d_X_thousandthsOf_10 : decode c_X_thousandthsOf 10 = .ok (.lload 6, 2) := by decide +kernel
theorem d_X_thousandthsOf_12 : decode c_X_thousandthsOf 12 = .ok (.lload 4, 2) := by decide +kernel
theorem d_X_thousandthsOf_14 : decode c_X_thousandthsOf 14 = .ok (.invokestatic 64, 3) := by decide +kernel
theorem d_X_thousandthsOf_17 : decode c_X_thousandthsOf 17 = .ok (.lstore 8, 2) := by decide +kernel
theorem d_X_thousandthsOf_19 : decode c_X_thousandthsOf 19 = .ok (.lconst 0, 1) := by decide +kernel
theorem d_X_thousandthsOf_20 : decode c_X_thousandthsOf 20 = .ok (.lstore 10, 2) := by decide +kernel
theorem d_X_thousandthsOf_22 : decode c_X_thousandthsOf 22 = .ok (.lconst 0, 1) := by decide +kernel
theorem d_X_thousandthsOf_23 : decode c_X_thousandthsOf 23 = .ok (.lstore 12, 2) := by decide +kernel
theorem d_X_thousandthsOf_25 : decode c_X_thousandthsOf 25 = .ok (.iconst 0, 1) := by decide +kernel
theorem d_X_thousandthsOf_26 : decode c_X_thousandthsOf 26 = .ok (.istore 14, 2) := by decide +kernel
theorem d_X_thousandthsOf_28 : decode c_X_thousandthsOf 28 = .ok (.iload 14, 2) := by decide +kernel
theorem d_X_thousandthsOf_30 : decode c_X_thousandthsOf 30 = .ok (.aload_n 0, 1) := by decide +kernel
theorem d_X_thousandthsOf_31 : decode c_X_thousandthsOf 31 = .ok (.getfield 104, 3) := by decide +kernel
theorem d_X_thousandthsOf_34 : decode c_X_thousandthsOf 34 = .ok (.if_icmp .ge 60, 3) := by decide +kernel
theorem d_X_thousandthsOf_37 : decode c_X_thousandthsOf 37 = .ok (.lload_n 2, 1) := by decide +kernel
theorem d_X_thousandthsOf_38 : decode c_X_thousandthsOf 38 = .ok (.aload_n 0, 1) := by decide +kernel
theorem d_X_thousandthsOf_39 : decode c_X_thousandthsOf 39 = .ok (.getfield 20, 3) := by decide +kernel
theorem d_X_thousandthsOf_42 : decode c_X_thousandthsOf 42 = .ok (.iload 14, 2) := by decide +kernel
theorem d_X_thousandthsOf_44 : decode c_X_thousandthsOf 44 = .ok (.laload, 1) := by decide +kernel
theorem d_X_thousandthsOf_45 : decode c_X_thousandthsOf 45 = .ok (.lmul, 1) := by decide +kernel
theorem d_X_thousandthsOf_46 : decode c_X_thousandthsOf 46 = .ok (.lload 4, 2) := by decide +kernel
theorem d_X_thousandthsOf_48 : decode c_X_thousandthsOf 48 = .ok (.invokestatic 64, 3) := by decide +kernel
theorem d_X_thousandthsOf_51 : decode c_X_thousandthsOf 51 = .ok (.lstore 15, 2) := by decide +kernel
theorem d_X_thousandthsOf_53 : decode c_X_thousandthsOf 53 = .ok (.lload 10, 2) := by decide +kernel
theorem d_X_thousandthsOf_55 : decode c_X_thousandthsOf 55 = .ok (.lload 15, 2) := by decide +kernel
theorem d_X_thousandthsOf_57 : decode c_X_thousandthsOf 57 = .ok (.ladd, 1) := by decide +kernel
theorem d_X_thousandthsOf_58 : decode c_X_thousandthsOf 58 = .ok (.lstore 10, 2) := by decide +kernel
theorem d_X_thousandthsOf_60 : decode c_X_thousandthsOf 60 = .ok (.lload 15, 2) := by decide +kernel
theorem d_X_thousandthsOf_62 : decode c_X_thousandthsOf 62 = .ok (.lload 8, 2) := by decide +kernel
theorem d_X_thousandthsOf_64 : decode c_X_thousandthsOf 64 = .ok (.lcmp, 1) := by decide +kernel
theorem d_X_thousandthsOf_65 : decode c_X_thousandthsOf 65 = .ok (.ifCond .gt 17, 3) := by decide +kernel
theorem d_X_thousandthsOf_68 : decode c_X_thousandthsOf 68 = .ok (.lload 15, 2) := by decide +kernel
theorem d_X_thousandthsOf_70 : decode c_X_thousandthsOf 70 = .ok (.lload 8, 2) := by decide +kernel
theorem d_X_thousandthsOf_72 : decode c_X_thousandthsOf 72 = .ok (.lcmp, 1) := by decide +kernel
theorem d_X_thousandthsOf_73 : decode c_X_thousandthsOf 73 = .ok (.ifCond .ne 15, 3) := by decide +kernel
theorem d_X_thousandthsOf_76 : decode c_X_thousandthsOf 76 = .ok (.iload 14, 2) := by decide +kernel
theorem d_X_thousandthsOf_78 : decode c_X_thousandthsOf 78 = .ok (.iload_n 1, 1) := by decide +kernel
theorem d_X_thousandthsOf_79 : decode c_X_thousandthsOf 79 = .ok (.if_icmp .ge 9, 3) := by decide +kernel
theorem d_X_thousandthsOf_82 : decode c_X_thousandthsOf 82 = .ok (.lload 12, 2) := by decide +kernel
theorem d_X_thousandthsOf_84 : decode c_X_thousandthsOf 84 = .ok (.lconst 1, 1) := by decide +kernel
theorem d_X_thousandthsOf_85 : decode c_X_thousandthsOf 85 = .ok (.ladd, 1) := by decide +kernel
theorem d_X_thousandthsOf_86 : decode c_X_thousandthsOf 86 = .ok (.lstore 12, 2) := by decide +kernel
theorem d_X_thousandthsOf_88 : decode c_X_thousandthsOf 88 = .ok (.iinc 14 1, 3) := by decide +kernel
theorem d_X_thousandthsOf_91 : decode c_X_thousandthsOf 91 = .ok (.goto (-63), 3) := by decide +kernel
theorem d_X_thousandthsOf_94 : decode c_X_thousandthsOf 94 = .ok (.lload 10, 2) := by decide +kernel
theorem d_X_thousandthsOf_96 : decode c_X_thousandthsOf 96 = .ok (.lload 4, 2) := by decide +kernel
theorem d_X_thousandthsOf_98 : decode c_X_thousandthsOf 98 = .ok (.invokestatic 60, 3) := by decide +kernel
theorem d_X_thousandthsOf_101 : decode c_X_thousandthsOf 101 = .ok (.lstore 14, 2) := by decide +kernel
theorem d_X_thousandthsOf_103 : decode c_X_thousandthsOf 103 = .ok (.lload 6, 2) := by decide +kernel
theorem d_X_thousandthsOf_105 : decode c_X_thousandthsOf 105 = .ok (.lload 4, 2) := by decide +kernel
theorem d_X_thousandthsOf_107 : decode c_X_thousandthsOf 107 = .ok (.invokestatic 60, 3) := by decide +kernel
theorem d_X_thousandthsOf_110 : decode c_X_thousandthsOf 110 = .ok (.lstore 16, 2) := by decide +kernel
theorem d_X_thousandthsOf_112 : decode c_X_thousandthsOf 112 = .ok (.lload 12, 2) := by decide +kernel
theorem d_X_thousandthsOf_114 : decode c_X_thousandthsOf 114 = .ok (.lload 14, 2) := by decide +kernel
theorem d_X_thousandthsOf_116 : decode c_X_thousandthsOf 116 = .ok (.lcmp, 1) := by decide +kernel
theorem d_X_thousandthsOf_117 : decode c_X_thousandthsOf 117 = .ok (.ifCond .ge 10, 3) := by decide +kernel
theorem d_X_thousandthsOf_120 : decode c_X_thousandthsOf 120 = .ok (.lload 16, 2) := by decide +kernel
theorem d_X_thousandthsOf_122 : decode c_X_thousandthsOf 122 = .ok (.lconst 1, 1) := by decide +kernel
theorem d_X_thousandthsOf_123 : decode c_X_thousandthsOf 123 = .ok (.ladd, 1) := by decide +kernel
theorem d_X_thousandthsOf_124 : decode c_X_thousandthsOf 124 = .ok (.goto 5, 3) := by decide +kernel
theorem d_X_thousandthsOf_127 : decode c_X_thousandthsOf 127 = .ok (.lload 16, 2) := by decide +kernel
theorem d_X_thousandthsOf_129 : decode c_X_thousandthsOf 129 = .ok (.lreturn, 1) := by decide +kernel
theorem d_X_digitBefore_0 : decode c_X_digitBefore 0 = .ok (.iload_n 2, 1) := by decide +kernel
theorem d_X_digitBefore_1 : decode c_X_digitBefore 1 = .ok (.ifCond .lt 9, 3) := by decide +kernel
theorem d_X_digitBefore_4 : decode c_X_digitBefore 4 = .ok (.iload_n 2, 1) := by decide +kernel
theorem d_X_digitBefore_5 : decode c_X_digitBefore 5 = .ok (.bipush 10, 2) := by decide +kernel
theorem d_X_digitBefore_7 : decode c_X_digitBefore 7 = .ok (.if_icmp .lt 5, 3) := by decide +kernel
theorem d_X_digitBefore_10 : decode c_X_digitBefore 10 = .ok (.iconst (-1), 1) := by decide +kernel
theorem d_X_digitBefore_11 : decode c_X_digitBefore 11 = .ok (.ireturn, 1) := by decide +kernel
theorem d_X_digitBefore_12 : decode c_X_digitBefore 12 = .ok (.lload_n 0, 1) := by decide +kernel
theorem d_X_digitBefore_13 : decode c_X_digitBefore 13 = .ok (.lstore_n 3, 1) := by decide +kernel
theorem d_X_digitBefore_14 : decode c_X_digitBefore 14 = .ok (.iconst 0, 1) := by decide +kernel
theorem d_X_digitBefore_15 : decode c_X_digitBefore 15 = .ok (.istore 5, 2) := by decide +kernel
theorem d_X_digitBefore_17 : decode c_X_digitBefore 17 = .ok (.iload 5, 2) := by decide +kernel
theorem d_X_digitBefore_19 : decode c_X_digitBefore 19 = .ok (.iload_n 2, 1) := by decide +kernel
theorem d_X_digitBefore_20 : decode c_X_digitBefore 20 = .ok (.if_icmp .ge 15, 3) := by decide +kernel
theorem d_X_digitBefore_23 : decode c_X_digitBefore 23 = .ok (.lload_n 3, 1) := by decide +kernel
theorem d_X_digitBefore_24 : decode c_X_digitBefore 24 = .ok (.ldc2_w 171, 3) := by decide +kernel
theorem d_X_digitBefore_27 : decode c_X_digitBefore 27 = .ok (.ldiv, 1) := by decide +kernel
theorem d_X_digitBefore_28 : decode c_X_digitBefore 28 = .ok (.lstore_n 3, 1) := by decide +kernel
theorem d_X_digitBefore_29 : decode c_X_digitBefore 29 = .ok (.iinc 5 1, 3) := by decide +kernel
theorem d_X_digitBefore_32 : decode c_X_digitBefore 32 = .ok (.goto (-15), 3) := by decide +kernel
theorem d_X_digitBefore_35 : decode c_X_digitBefore 35 = .ok (.iload_n 2, 1) := by decide +kernel
theorem d_X_digitBefore_36 : decode c_X_digitBefore 36 = .ok (.ifCond .le 13, 3) := by decide +kernel
theorem d_X_digitBefore_39 : decode c_X_digitBefore 39 = .ok (.lload_n 3, 1) := by decide +kernel
theorem d_X_digitBefore_40 : decode c_X_digitBefore 40 = .ok (.lconst 0, 1) := by decide +kernel
theorem d_X_digitBefore_41 : decode c_X_digitBefore 41 = .ok (.lcmp, 1) := by decide +kernel
theorem d_X_digitBefore_42 : decode c_X_digitBefore 42 = .ok (.ifCond .ne 7, 3) := by decide +kernel
theorem d_X_digitBefore_45 : decode c_X_digitBefore 45 = .ok (.iconst (-1), 1) := by decide +kernel
theorem d_X_digitBefore_46 : decode c_X_digitBefore 46 = .ok (.goto 9, 3) := by decide +kernel
theorem d_X_digitBefore_49 : decode c_X_digitBefore 49 = .ok (.lload_n 3, 1) := by decide +kernel
theorem d_X_digitBefore_50 : decode c_X_digitBefore 50 = .ok (.ldc2_w 171, 3) := by decide +kernel
theorem d_X_digitBefore_53 : decode c_X_digitBefore 53 = .ok (.lrem, 1) := by decide +kernel
theorem d_X_digitBefore_54 : decode c_X_digitBefore 54 = .ok (.l2i, 1) := by decide +kernel
theorem d_X_digitBefore_55 : decode c_X_digitBefore 55 = .ok (.ireturn, 1) := by decide +kernel
theorem d_X_digitBehind_0 : decode c_X_digitBehind 0 = .ok (.iload 4, 2) := by decide +kernel
theorem d_X_digitBehind_2 : decode c_X_digitBehind 2 = .ok (.ifCond .lt 10, 3) := by decide +kernel
theorem d_X_digitBehind_5 : decode c_X_digitBehind 5 = .ok (.iload 4, 2) := by decide +kernel
theorem d_X_digitBehind_7 : decode c_X_digitBehind 7 = .ok (.bipush 30, 2) := by decide +kernel
theorem d_X_digitBehind_9 : decode c_X_digitBehind 9 = .ok (.if_icmp .lt 5, 3) := by decide +kernel
theorem d_X_digitBehind_12 : decode c_X_digitBehind 12 = .ok (.iconst (-1), 1) := by decide +kernel
theorem d_X_digitBehind_13 : decode c_X_digitBehind 13 = .ok (.ireturn, 1) := by decide +kernel
theorem d_X_digitBehind_14 : decode c_X_digitBehind 14 = .ok (.lload_n 0, 1) := by decide +kernel
theorem d_X_digitBehind_15 : decode c_X_digitBehind 15 = .ok (.lstore 5, 2) := by decide +kernel
theorem d_X_digitBehind_17 : decode c_X_digitBehind 17 = .ok (.iconst 0, 1) := by decide +kernel
theorem d_X_digitBehind_18 : decode c_X_digitBehind 18 = .ok (.istore 7, 2) := by decide +kernel
theorem d_X_digitBehind_20 : decode c_X_digitBehind 20 = .ok (.iload 7, 2) := by decide +kernel
theorem d_X_digitBehind_22 : decode c_X_digitBehind 22 = .ok (.iload 4, 2) := by decide +kernel
theorem d_X_digitBehind_24 : decode c_X_digitBehind 24 = .ok (.if_icmp .ge 21, 3) := by decide +kernel
theorem d_X_digitBehind_27 : decode c_X_digitBehind 27 = .ok (.lload 5, 2) := by decide +kernel
theorem d_X_digitBehind_29 : decode c_X_digitBehind 29 = .ok (.ldc2_w 171, 3) := by decide +kernel
theorem d_X_digitBehind_32 : decode c_X_digitBehind 32 = .ok (.lmul, 1) := by decide +kernel
theorem d_X_digitBehind_33 : decode c_X_digitBehind 33 = .ok (.lload_n 2, 1) := by decide +kernel
theorem d_X_digitBehind_34 : decode c_X_digitBehind 34 = .ok (.invokestatic 64, 3) := by decide +kernel
theorem d_X_digitBehind_37 : decode c_X_digitBehind 37 = .ok (.lstore 5, 2) := by decide +kernel
theorem d_X_digitBehind_39 : decode c_X_digitBehind 39 = .ok (.iinc 7 1, 3) := by decide +kernel
theorem d_X_digitBehind_42 : decode c_X_digitBehind 42 = .ok (.goto (-22), 3) := by decide +kernel
theorem d_X_digitBehind_45 : decode c_X_digitBehind 45 = .ok (.lload 5, 2) := by decide +kernel
theorem d_X_digitBehind_47 : decode c_X_digitBehind 47 = .ok (.lconst 0, 1) := by decide +kernel
theorem d_X_digitBehind_48 : decode c_X_digitBehind 48 = .ok (.lcmp, 1) := by decide +kernel
theorem d_X_digitBehind_49 : decode c_X_digitBehind 49 = .ok (.ifCond .ne 7, 3) := by decide +kernel
theorem d_X_digitBehind_52 : decode c_X_digitBehind 52 = .ok (.iconst (-1), 1) := by decide +kernel
theorem d_X_digitBehind_53 : decode c_X_digitBehind 53 = .ok (.goto 14, 3) := by decide +kernel
theorem d_X_digitBehind_56 : decode c_X_digitBehind 56 = .ok (.lload 5, 2) := by decide +kernel
theorem d_X_digitBehind_58 : decode c_X_digitBehind 58 = .ok (.ldc2_w 171, 3) := by decide +kernel
theorem d_X_digitBehind_61 : decode c_X_digitBehind 61 = .ok (.lmul, 1) := by decide +kernel
theorem d_X_digitBehind_62 : decode c_X_digitBehind 62 = .ok (.lload_n 2, 1) := by decide +kernel
theorem d_X_digitBehind_63 : decode c_X_digitBehind 63 = .ok (.invokestatic 60, 3) := by decide +kernel
theorem d_X_digitBehind_66 : decode c_X_digitBehind 66 = .ok (.l2i, 1) := by decide +kernel
theorem d_X_digitBehind_67 : decode c_X_digitBehind 67 = .ok (.ireturn, 1) := by decide +kernel
theorem d_T_init_0 : decode c_T_init 0 = .ok (.aload_n 0, 1) := by decide +kernel
theorem d_T_init_1 : decode c_T_init 1 = .ok (.invokespecial 3, 3) := by decide +kernel
theorem d_T_init_4 : decode c_T_init 4 = .ok (.aload_n 0, 1) := by decide +kernel
theorem d_T_init_5 : decode c_T_init 5 = .ok (.bipush 16, 2) := by decide +kernel
theorem d_T_init_7 : decode c_T_init 7 = .ok (.newarray .long, 2) := by decide +kernel
theorem d_T_init_9 : decode c_T_init 9 = .ok (.putfield 9, 3) := by decide +kernel
theorem d_T_init_12 : decode c_T_init 12 = .ok (.aload_n 0, 1) := by decide +kernel
theorem d_T_init_13 : decode c_T_init 13 = .ok (.bipush 16, 2) := by decide +kernel
theorem d_T_init_15 : decode c_T_init 15 = .ok (.newarray .long, 2) := by decide +kernel
theorem d_T_init_17 : decode c_T_init 17 = .ok (.putfield 15, 3) := by decide +kernel
theorem d_T_init_20 : decode c_T_init 20 = .ok (.return_, 1) := by decide +kernel
theorem d_T_takes_0 : decode c_T_takes 0 = .ok (.aload_n 0, 1) := by decide +kernel
theorem d_T_takes_1 : decode c_T_takes 1 = .ok (.getfield 18, 3) := by decide +kernel
theorem d_T_takes_4 : decode c_T_takes 4 = .ok (.bipush 16, 2) := by decide +kernel
theorem d_T_takes_6 : decode c_T_takes 6 = .ok (.if_icmp .ge 19, 3) := by decide +kernel
theorem d_T_takes_9 : decode c_T_takes 9 = .ok (.lload 5, 2) := by decide +kernel
theorem d_T_takes_11 : decode c_T_takes 11 = .ok (.lconst 1, 1) := by decide +kernel
theorem d_T_takes_12 : decode c_T_takes 12 = .ok (.lcmp, 1) := by decide +kernel
theorem d_T_takes_13 : decode c_T_takes 13 = .ok (.ifCond .lt 12, 3) := by decide +kernel
theorem d_T_takes_16 : decode c_T_takes 16 = .ok (.lload 5, 2) := by decide +kernel
theorem d_T_takes_18 : decode c_T_takes 18 = .ok (.ldc2_w 22, 3) := by decide +kernel
theorem d_T_takes_21 : decode c_T_takes 21 = .ok (.lcmp, 1) := by decide +kernel
theorem d_T_takes_22 : decode c_T_takes 22 = .ok (.ifCond .le 5, 3) := by decide +kernel
theorem d_T_takes_25 : decode c_T_takes 25 = .ok (.iconst 0, 1) := by decide +kernel
theorem d_T_takes_26 : decode c_T_takes 26 = .ok (.ireturn, 1) := by decide +kernel
theorem d_T_takes_27 : decode c_T_takes 27 = .ok (.lload_n 1, 1) := by decide +kernel
theorem d_T_takes_28 : decode c_T_takes 28 = .ok (.invokestatic 24, 3) := by decide +kernel
theorem d_T_takes_31 : decode c_T_takes 31 = .ok (.ifCond .eq 10, 3) := by decide +kernel
theorem d_T_takes_34 : decode c_T_takes 34 = .ok (.lload_n 3, 1) := by decide +kernel
theorem d_T_takes_35 : decode c_T_takes 35 = .ok (.invokestatic 24, 3) := by decide +kernel
theorem d_T_takes_38 : decode c_T_takes 38 = .ok (.ifCond .ne 5, 3) := by decide +kernel
theorem d_T_takes_41 : decode c_T_takes 41 = .ok (.iconst 0, 1) := by decide +kernel
theorem d_T_takes_42 : decode c_T_takes 42 = .ok (.ireturn, 1) := by decide +kernel
theorem d_T_takes_43 : decode c_T_takes 43 = .ok (.aload_n 0, 1) := by decide +kernel
theorem d_T_takes_44 : decode c_T_takes 44 = .ok (.getfield 18, 3) := by decide +kernel
theorem d_T_takes_47 : decode c_T_takes 47 = .ok (.ifCond .eq 29, 3) := by decide +kernel
theorem d_T_takes_50 : decode c_T_takes 50 = .ok (.lload 5, 2) := by decide +kernel
theorem d_T_takes_52 : decode c_T_takes 52 = .ok (.aload_n 0, 1) := by decide +kernel
theorem d_T_takes_53 : decode c_T_takes 53 = .ok (.getfield 28, 3) := by decide +kernel
theorem d_T_takes_56 : decode c_T_takes 56 = .ok (.lcmp, 1) := by decide +kernel
theorem d_T_takes_57 : decode c_T_takes 57 = .ok (.ifCond .ne 23, 3) := by decide +kernel
theorem d_T_takes_60 : decode c_T_takes 60 = .ok (.lload_n 1, 1) := by decide +kernel
theorem d_T_takes_61 : decode c_T_takes 61 = .ok (.aload_n 0, 1) := by decide +kernel
theorem d_T_takes_62 : decode c_T_takes 62 = .ok (.getfield 9, 3) := by decide +kernel
theorem d_T_takes_65 : decode c_T_takes 65 = .ok (.aload_n 0, 1) := by decide +kernel
theorem d_T_takes_66 : decode c_T_takes 66 = .ok (.getfield 18, 3) := by decide +kernel
theorem d_T_takes_69 : decode c_T_takes 69 = .ok (.iconst 1, 1) := by decide +kernel
theorem d_T_takes_70 : decode c_T_takes 70 = .ok (.isub, 1) := by decide +kernel
theorem d_T_takes_71 : decode c_T_takes 71 = .ok (.laload, 1) := by decide +kernel
theorem d_T_takes_72 : decode c_T_takes 72 = .ok (.lcmp, 1) := by decide +kernel
theorem d_T_takes_73 : decode c_T_takes 73 = .ok (.ifCond .le 7, 3) := by decide +kernel
theorem d_T_takes_76 : decode c_T_takes 76 = .ok (.iconst 1, 1) := by decide +kernel
theorem d_T_takes_77 : decode c_T_takes 77 = .ok (.goto 4, 3) := by decide +kernel
theorem d_T_takes_80 : decode c_T_takes 80 = .ok (.iconst 0, 1) := by decide +kernel
theorem d_T_takes_81 : decode c_T_takes 81 = .ok (.ireturn, 1) := by decide +kernel
theorem d_T_isInside_0 : decode c_T_isInside 0 = .ok (.lload_n 0, 1) := by decide +kernel
theorem d_T_isInside_1 : decode c_T_isInside 1 = .ok (.ldc2_w 32, 3) := by decide +kernel
theorem d_T_isInside_4 : decode c_T_isInside 4 = .ok (.lcmp, 1) := by decide +kernel
theorem d_T_isInside_5 : decode c_T_isInside 5 = .ok (.ifCond .lt 15, 3) := by decide +kernel
theorem d_T_isInside_8 : decode c_T_isInside 8 = .ok (.lload_n 0, 1) := by decide +kernel
theorem d_T_isInside_9 : decode c_T_isInside 9 = .ok (.ldc2_w 34, 3) := by decide +kernel
theorem d_T_isInside_12 : decode c_T_isInside 12 = .ok (.lcmp, 1) := by decide +kernel
theorem d_T_isInside_13 : decode c_T_isInside 13 = .ok (.ifCond .gt 7, 3) := by decide +kernel
theorem d_T_isInside_16 : decode c_T_isInside 16 = .ok (.iconst 1, 1) := by decide +kernel
theorem d_T_isInside_17 : decode c_T_isInside 17 = .ok (.goto 4, 3) := by decide +kernel
theorem d_T_isInside_20 : decode c_T_isInside 20 = .ok (.iconst 0, 1) := by decide +kernel
theorem d_T_isInside_21 : decode c_T_isInside 21 = .ok (.ireturn, 1) := by decide +kernel
theorem d_T_append_0 : decode c_T_append 0 = .ok (.aload_n 0, 1) := by decide +kernel
theorem d_T_append_1 : decode c_T_append 1 = .ok (.getfield 18, 3) := by decide +kernel
theorem d_T_append_4 : decode c_T_append 4 = .ok (.bipush 16, 2) := by decide +kernel
theorem d_T_append_6 : decode c_T_append 6 = .ok (.if_icmp .lt 4, 3) := by decide +kernel
theorem d_T_append_9 : decode c_T_append 9 = .ok (.return_, 1) := by decide +kernel
theorem d_T_append_10 : decode c_T_append 10 = .ok (.aload_n 0, 1) := by decide +kernel
theorem d_T_append_11 : decode c_T_append 11 = .ok (.getfield 9, 3) := by decide +kernel
theorem d_T_append_14 : decode c_T_append 14 = .ok (.aload_n 0, 1) := by decide +kernel
theorem d_T_append_15 : decode c_T_append 15 = .ok (.getfield 18, 3) := by decide +kernel
theorem d_T_append_18 : decode c_T_append 18 = .ok (.lload_n 1, 1) := by decide +kernel
theorem d_T_append_19 : decode c_T_append 19 = .ok (.lastore, 1) := by decide +kernel
theorem d_T_append_20 : decode c_T_append 20 = .ok (.aload_n 0, 1) := by decide +kernel
theorem d_T_append_21 : decode c_T_append 21 = .ok (.getfield 15, 3) := by decide +kernel
theorem d_T_append_24 : decode c_T_append 24 = .ok (.aload_n 0, 1) := by decide +kernel
theorem d_T_append_25 : decode c_T_append 25 = .ok (.getfield 18, 3) := by decide +kernel
theorem d_T_append_28 : decode c_T_append 28 = .ok (.lload_n 3, 1) := by decide +kernel
theorem d_T_append_29 : decode c_T_append 29 = .ok (.lastore, 1) := by decide +kernel
theorem d_T_append_30 : decode c_T_append 30 = .ok (.aload_n 0, 1) := by decide +kernel
theorem d_T_append_31 : decode c_T_append 31 = .ok (.lload 5, 2) := by decide +kernel
theorem d_T_append_33 : decode c_T_append 33 = .ok (.putfield 28, 3) := by decide +kernel
theorem d_T_append_36 : decode c_T_append 36 = .ok (.aload_n 0, 1) := by decide +kernel
theorem d_T_append_37 : decode c_T_append 37 = .ok (.dup, 1) := by decide +kernel
theorem d_T_append_38 : decode c_T_append 38 = .ok (.getfield 18, 3) := by decide +kernel
theorem d_T_append_41 : decode c_T_append 41 = .ok (.iconst 1, 1) := by decide +kernel
theorem d_T_append_42 : decode c_T_append 42 = .ok (.iadd, 1) := by decide +kernel
theorem d_T_append_43 : decode c_T_append 43 = .ok (.putfield 18, 3) := by decide +kernel
theorem d_T_append_46 : decode c_T_append 46 = .ok (.return_, 1) := by decide +kernel
theorem d_T_firstNotBefore_0 : decode c_T_firstNotBefore 0 = .ok (.lload_n 1, 1) := by decide +kernel
theorem d_T_firstNotBefore_1 : decode c_T_firstNotBefore 1 = .ok (.aload_n 0, 1) := by decide +kernel
theorem d_T_firstNotBefore_2 : decode c_T_firstNotBefore 2 = .ok (.getfield 28, 3) := by decide +kernel
theorem d_T_firstNotBefore_5 : decode c_T_firstNotBefore 5 = .ok (.lmul, 1) := by decide +kernel
theorem d_T_firstNotBefore_6 : decode c_T_firstNotBefore 6 = .ok (.lstore 5, 2) := by decide +kernel
theorem d_T_firstNotBefore_8 : decode c_T_firstNotBefore 8 = .ok (.iconst 0, 1) := by decide +kernel
theorem d_T_firstNotBefore_9 : decode c_T_firstNotBefore 9 = .ok (.istore 7, 2) := by decide +kernel
theorem d_T_firstNotBefore_11 : decode c_T_firstNotBefore 11 = .ok (.iload 7, 2) := by decide +kernel
theorem d_T_firstNotBefore_13 : decode c_T_firstNotBefore 13 = .ok (.aload_n 0, 1) := by decide +kernel
theorem d_T_firstNotBefore_14 : decode c_T_firstNotBefore 14 = .ok (.getfield 18, 3) := by decide +kernel
theorem d_T_firstNotBefore_17 : decode c_T_firstNotBefore 17 = .ok (.if_icmp .ge 24, 3) := by decide +kernel
theorem d_T_firstNotBefore_20 : decode c_T_firstNotBefore 20 = .ok (.aload_n 0, 1) := by decide +kernel
theorem d_T_firstNotBefore_21 : decode c_T_firstNotBefore 21 = .ok (.getfield 9, 3) := by decide +kernel
theorem d_T_firstNotBefore_24 : decode c_T_firstNotBefore 24 = .ok (.iload 7, 2) := by decide +kernel
theorem d_T_firstNotBefore_26 : decode c_T_firstNotBefore 26 = .ok (.laload, 1) := by decide +kernel
theorem d_T_firstNotBefore_27 : decode c_T_firstNotBefore 27 = .ok (.lload_n 3, 1) := by decide +kernel
theorem d_T_firstNotBefore_28 : decode c_T_firstNotBefore 28 = .ok (.lmul, 1) := by decide +kernel
theorem d_T_firstNotBefore_29 : decode c_T_firstNotBefore 29 = .ok (.lload 5, 2) := by decide +kernel
theorem d_T_firstNotBefore_31 : decode c_T_firstNotBefore 31 = .ok (.lcmp, 1) := by decide +kernel
theorem d_T_firstNotBefore_32 : decode c_T_firstNotBefore 32 = .ok (.ifCond .ge 9, 3) := by decide +kernel
theorem d_T_firstNotBefore_35 : decode c_T_firstNotBefore 35 = .ok (.iinc 7 1, 3) := by decide +kernel
theorem d_T_firstNotBefore_38 : decode c_T_firstNotBefore 38 = .ok (.goto (-27), 3) := by decide +kernel
theorem d_T_firstNotBefore_41 : decode c_T_firstNotBefore 41 = .ok (.iload 7, 2) := by decide +kernel
theorem d_T_firstNotBefore_43 : decode c_T_firstNotBefore 43 = .ok (.ireturn, 1) := by decide +kernel
theorem d_JL_compare_0 : decode c_JL_compare 0 = .ok (.lload_n 0, 1) := by decide +kernel
theorem d_JL_compare_1 : decode c_JL_compare 1 = .ok (.lload_n 2, 1) := by decide +kernel
theorem d_JL_compare_2 : decode c_JL_compare 2 = .ok (.lcmp, 1) := by decide +kernel
theorem d_JL_compare_3 : decode c_JL_compare 3 = .ok (.ifCond .ge 7, 3) := by decide +kernel
theorem d_JL_compare_6 : decode c_JL_compare 6 = .ok (.iconst (-1), 1) := by decide +kernel
theorem d_JL_compare_7 : decode c_JL_compare 7 = .ok (.goto 14, 3) := by decide +kernel
theorem d_JL_compare_10 : decode c_JL_compare 10 = .ok (.lload_n 0, 1) := by decide +kernel
theorem d_JL_compare_11 : decode c_JL_compare 11 = .ok (.lload_n 2, 1) := by decide +kernel
theorem d_JL_compare_12 : decode c_JL_compare 12 = .ok (.lcmp, 1) := by decide +kernel
theorem d_JL_compare_13 : decode c_JL_compare 13 = .ok (.ifCond .ne 7, 3) := by decide +kernel
theorem d_JL_compare_16 : decode c_JL_compare 16 = .ok (.iconst 0, 1) := by decide +kernel
theorem d_JL_compare_17 : decode c_JL_compare 17 = .ok (.goto 4, 3) := by decide +kernel
theorem d_JL_compare_20 : decode c_JL_compare 20 = .ok (.iconst 1, 1) := by decide +kernel
theorem d_JL_compare_21 : decode c_JL_compare 21 = .ok (.ireturn, 1) := by decide +kernel
theorem d_JM_abs_0 : decode c_JM_abs 0 = .ok (.lload_n 0, 1) := by decide +kernel
theorem d_JM_abs_1 : decode c_JM_abs 1 = .ok (.lconst 0, 1) := by decide +kernel
theorem d_JM_abs_2 : decode c_JM_abs 2 = .ok (.lcmp, 1) := by decide +kernel
theorem d_JM_abs_3 : decode c_JM_abs 3 = .ok (.ifCond .ge 8, 3) := by decide +kernel
theorem d_JM_abs_6 : decode c_JM_abs 6 = .ok (.lload_n 0, 1) := by decide +kernel
theorem d_JM_abs_7 : decode c_JM_abs 7 = .ok (.lneg, 1) := by decide +kernel
theorem d_JM_abs_8 : decode c_JM_abs 8 = .ok (.goto 4, 3) := by decide +kernel
theorem d_JM_abs_11 : decode c_JM_abs 11 = .ok (.lload_n 0, 1) := by decide +kernel
theorem d_JM_abs_12 : decode c_JM_abs 12 = .ok (.lreturn, 1) := by decide +kernel
theorem d_JM_floorDiv_0 : decode c_JM_floorDiv 0 = .ok (.lload_n 0, 1) := by decide +kernel
theorem d_JM_floorDiv_1 : decode c_JM_floorDiv 1 = .ok (.lload_n 2, 1) := by decide +kernel
theorem d_JM_floorDiv_2 : decode c_JM_floorDiv 2 = .ok (.ldiv, 1) := by decide +kernel
theorem d_JM_floorDiv_3 : decode c_JM_floorDiv 3 = .ok (.lstore 4, 2) := by decide +kernel
theorem d_JM_floorDiv_5 : decode c_JM_floorDiv 5 = .ok (.lload_n 0, 1) := by decide +kernel
theorem d_JM_floorDiv_6 : decode c_JM_floorDiv 6 = .ok (.lload_n 2, 1) := by decide +kernel
theorem d_JM_floorDiv_7 : decode c_JM_floorDiv 7 = .ok (.lxor, 1) := by decide +kernel
theorem d_JM_floorDiv_8 : decode c_JM_floorDiv 8 = .ok (.lconst 0, 1) := by decide +kernel
theorem d_JM_floorDiv_9 : decode c_JM_floorDiv 9 = .ok (.lcmp, 1) := by decide +kernel
theorem d_JM_floorDiv_10 : decode c_JM_floorDiv 10 = .ok (.ifCond .ge 17, 3) := by decide +kernel
theorem d_JM_floorDiv_13 : decode c_JM_floorDiv 13 = .ok (.lload 4, 2) := by decide +kernel
theorem d_JM_floorDiv_15 : decode c_JM_floorDiv 15 = .ok (.lload_n 2, 1) := by decide +kernel
theorem d_JM_floorDiv_16 : decode c_JM_floorDiv 16 = .ok (.lmul, 1) := by decide +kernel
theorem d_JM_floorDiv_17 : decode c_JM_floorDiv 17 = .ok (.lload_n 0, 1) := by decide +kernel
theorem d_JM_floorDiv_18 : decode c_JM_floorDiv 18 = .ok (.lcmp, 1) := by decide +kernel
theorem d_JM_floorDiv_19 : decode c_JM_floorDiv 19 = .ok (.ifCond .eq 8, 3) := by decide +kernel
theorem d_JM_floorDiv_22 : decode c_JM_floorDiv 22 = .ok (.lload 4, 2) := by decide +kernel
theorem d_JM_floorDiv_24 : decode c_JM_floorDiv 24 = .ok (.lconst 1, 1) := by decide +kernel
theorem d_JM_floorDiv_25 : decode c_JM_floorDiv 25 = .ok (.lsub, 1) := by decide +kernel
theorem d_JM_floorDiv_26 : decode c_JM_floorDiv 26 = .ok (.lreturn, 1) := by decide +kernel
theorem d_JM_floorDiv_27 : decode c_JM_floorDiv 27 = .ok (.lload 4, 2) := by decide +kernel
theorem d_JM_floorDiv_29 : decode c_JM_floorDiv 29 = .ok (.lreturn, 1) := by decide +kernel
theorem d_JM_floorMod_0 : decode c_JM_floorMod 0 = .ok (.lload_n 0, 1) := by decide +kernel
theorem d_JM_floorMod_1 : decode c_JM_floorMod 1 = .ok (.lload_n 2, 1) := by decide +kernel
theorem d_JM_floorMod_2 : decode c_JM_floorMod 2 = .ok (.lrem, 1) := by decide +kernel
theorem d_JM_floorMod_3 : decode c_JM_floorMod 3 = .ok (.lstore 4, 2) := by decide +kernel
theorem d_JM_floorMod_5 : decode c_JM_floorMod 5 = .ok (.lload_n 0, 1) := by decide +kernel
theorem d_JM_floorMod_6 : decode c_JM_floorMod 6 = .ok (.lload_n 2, 1) := by decide +kernel
theorem d_JM_floorMod_7 : decode c_JM_floorMod 7 = .ok (.lxor, 1) := by decide +kernel
theorem d_JM_floorMod_8 : decode c_JM_floorMod 8 = .ok (.lconst 0, 1) := by decide +kernel
theorem d_JM_floorMod_9 : decode c_JM_floorMod 9 = .ok (.lcmp, 1) := by decide +kernel
theorem d_JM_floorMod_10 : decode c_JM_floorMod 10 = .ok (.ifCond .ge 15, 3) := by decide +kernel
theorem d_JM_floorMod_13 : decode c_JM_floorMod 13 = .ok (.lload 4, 2) := by decide +kernel
theorem d_JM_floorMod_15 : decode c_JM_floorMod 15 = .ok (.lconst 0, 1) := by decide +kernel
theorem d_JM_floorMod_16 : decode c_JM_floorMod 16 = .ok (.lcmp, 1) := by decide +kernel
theorem d_JM_floorMod_17 : decode c_JM_floorMod 17 = .ok (.ifCond .eq 8, 3) := by decide +kernel
theorem d_JM_floorMod_20 : decode c_JM_floorMod 20 = .ok (.lload 4, 2) := by decide +kernel
theorem d_JM_floorMod_22 : decode c_JM_floorMod 22 = .ok (.lload_n 2, 1) := by decide +kernel
theorem d_JM_floorMod_23 : decode c_JM_floorMod 23 = .ok (.ladd, 1) := by decide +kernel
theorem d_JM_floorMod_24 : decode c_JM_floorMod 24 = .ok (.lreturn, 1) := by decide +kernel
theorem d_JM_floorMod_25 : decode c_JM_floorMod 25 = .ok (.lload 4, 2) := by decide +kernel
theorem d_JM_floorMod_27 : decode c_JM_floorMod 27 = .ok (.lreturn, 1) := by decide +kernel
end
section
theorem d_M_init_0 : decode c_M_init 0 = .ok (.aload_n 0, 1) := by decide +kernel
theorem d_M_init_1 : decode c_M_init 1 = .ok (.invokespecial 1, 3) := by decide +kernel
theorem d_M_init_4 : decode c_M_init 4 = .ok (.aload_n 0, 1) := by decide +kernel
theorem d_M_init_5 : decode c_M_init 5 = .ok (.sipush 500, 3) := by decide +kernel
theorem d_M_init_8 : decode c_M_init 8 = .ok (.newarray .long, 2) := by decide +kernel
theorem d_M_init_10 : decode c_M_init 10 = .ok (.putfield 7, 3) := by decide +kernel
theorem d_M_init_13 : decode c_M_init 13 = .ok (.aload_n 0, 1) := by decide +kernel
theorem d_M_init_14 : decode c_M_init 14 = .ok (.sipush 500, 3) := by decide +kernel
theorem d_M_init_17 : decode c_M_init 17 = .ok (.newarray .long, 2) := by decide +kernel
theorem d_M_init_19 : decode c_M_init 19 = .ok (.putfield 13, 3) := by decide +kernel
theorem d_M_init_22 : decode c_M_init 22 = .ok (.aload_n 0, 1) := by decide +kernel
theorem d_M_init_23 : decode c_M_init 23 = .ok (.sipush 500, 3) := by decide +kernel
theorem d_M_init_26 : decode c_M_init 26 = .ok (.newarray .int, 2) := by decide +kernel
theorem d_M_init_28 : decode c_M_init 28 = .ok (.putfield 16, 3) := by decide +kernel
theorem d_M_init_31 : decode c_M_init 31 = .ok (.aload_n 0, 1) := by decide +kernel
theorem d_M_init_32 : decode c_M_init 32 = .ok (.iconst 4, 1) := by decide +kernel
theorem d_M_init_33 : decode c_M_init 33 = .ok (.newarray .int, 2) := by decide +kernel
theorem d_M_init_35 : decode c_M_init 35 = .ok (.putfield 20, 3) := by decide +kernel
theorem d_M_init_38 : decode c_M_init 38 = .ok (.aload_n 0, 1) := by decide +kernel
theorem d_M_init_39 : decode c_M_init 39 = .ok (.bipush 64, 2) := by decide +kernel
theorem d_M_init_41 : decode c_M_init 41 = .ok (.newarray .long, 2) := by decide +kernel
theorem d_M_init_43 : decode c_M_init 43 = .ok (.putfield 23, 3) := by decide +kernel
theorem d_M_init_46 : decode c_M_init 46 = .ok (.aload_n 0, 1) := by decide +kernel
theorem d_M_init_47 : decode c_M_init 47 = .ok (.bipush 64, 2) := by decide +kernel
theorem d_M_init_49 : decode c_M_init 49 = .ok (.newarray .long, 2) := by decide +kernel
theorem d_M_init_51 : decode c_M_init 51 = .ok (.putfield 26, 3) := by decide +kernel
theorem d_M_init_54 : decode c_M_init 54 = .ok (.aload_n 0, 1) := by decide +kernel
theorem d_M_init_55 : decode c_M_init 55 = .ok (.iconst 4, 1) := by decide +kernel
theorem d_M_init_56 : decode c_M_init 56 = .ok (.newarray .long, 2) := by decide +kernel
theorem d_M_init_58 : decode c_M_init 58 = .ok (.putfield 29, 3) := by decide +kernel
theorem d_M_init_61 : decode c_M_init 61 = .ok (.aload_n 0, 1) := by decide +kernel
theorem d_M_init_62 : decode c_M_init 62 = .ok (.bipush 16, 2) := by decide +kernel
theorem d_M_init_64 : decode c_M_init 64 = .ok (.newarray .long, 2) := by decide +kernel
theorem d_M_init_66 : decode c_M_init 66 = .ok (.putfield 32, 3) := by decide +kernel
theorem d_M_init_69 : decode c_M_init 69 = .ok (.return_, 1) := by decide +kernel
theorem d_M_thrown_0 : decode c_M_thrown 0 = .ok (.aload_n 0, 1) := by decide +kernel
theorem d_M_thrown_1 : decode c_M_thrown 1 = .ok (.getfield 35, 3) := by decide +kernel
theorem d_M_thrown_4 : decode c_M_thrown 4 = .ok (.ireturn, 1) := by decide +kernel
theorem d_M_isAmount_0 : decode c_M_isAmount 0 = .ok (.iload_n 1, 1) := by decide +kernel
theorem d_M_isAmount_1 : decode c_M_isAmount 1 = .ok (.ifCond .lt 15, 3) := by decide +kernel
theorem d_M_isAmount_4 : decode c_M_isAmount 4 = .ok (.iload_n 1, 1) := by decide +kernel
theorem d_M_isAmount_5 : decode c_M_isAmount 5 = .ok (.aload_n 0, 1) := by decide +kernel
theorem d_M_isAmount_6 : decode c_M_isAmount 6 = .ok (.getfield 39, 3) := by decide +kernel
theorem d_M_isAmount_9 : decode c_M_isAmount 9 = .ok (.if_icmp .ge 7, 3) := by decide +kernel
theorem d_M_isAmount_12 : decode c_M_isAmount 12 = .ok (.iconst 1, 1) := by decide +kernel
theorem d_M_isAmount_13 : decode c_M_isAmount 13 = .ok (.goto 4, 3) := by decide +kernel
theorem d_M_isAmount_16 : decode c_M_isAmount 16 = .ok (.iconst 0, 1) := by decide +kernel
theorem d_M_isAmount_17 : decode c_M_isAmount 17 = .ok (.ireturn, 1) := by decide +kernel
theorem d_M_common_0 : decode c_M_common 0 = .ok (.lload_n 0, 1) := by decide +kernel
theorem d_M_common_1 : decode c_M_common 1 = .ok (.lconst 0, 1) := by decide +kernel
theorem d_M_common_2 : decode c_M_common 2 = .ok (.lcmp, 1) := by decide +kernel
theorem d_M_common_3 : decode c_M_common 3 = .ok (.ifCond .ge 8, 3) := by decide +kernel
theorem d_M_common_6 : decode c_M_common 6 = .ok (.lload_n 0, 1) := by decide +kernel
theorem d_M_common_7 : decode c_M_common 7 = .ok (.lneg, 1) := by decide +kernel
theorem d_M_common_8 : decode c_M_common 8 = .ok (.goto 4, 3) := by decide +kernel
theorem d_M_common_11 : decode c_M_common 11 = .ok (.lload_n 0, 1) := by decide +kernel
theorem d_M_common_12 : decode c_M_common 12 = .ok (.lstore 4, 2) := by decide +kernel
theorem d_M_common_14 : decode c_M_common 14 = .ok (.lload_n 2, 1) := by decide +kernel
theorem d_M_common_15 : decode c_M_common 15 = .ok (.lconst 0, 1) := by decide +kernel
theorem d_M_common_16 : decode c_M_common 16 = .ok (.lcmp, 1) := by decide +kernel
theorem d_M_common_17 : decode c_M_common 17 = .ok (.ifCond .ge 8, 3) := by decide +kernel
theorem d_M_common_20 : decode c_M_common 20 = .ok (.lload_n 2, 1) := by decide +kernel
theorem d_M_common_21 : decode c_M_common 21 = .ok (.lneg, 1) := by decide +kernel
theorem d_M_common_22 : decode c_M_common 22 = .ok (.goto 4, 3) := by decide +kernel
theorem d_M_common_25 : decode c_M_common 25 = .ok (.lload_n 2, 1) := by decide +kernel
theorem d_M_common_26 : decode c_M_common 26 = .ok (.lstore 6, 2) := by decide +kernel
theorem d_M_common_28 : decode c_M_common 28 = .ok (.lload 6, 2) := by decide +kernel
theorem d_M_common_30 : decode c_M_common 30 = .ok (.lconst 0, 1) := by decide +kernel
theorem d_M_common_31 : decode c_M_common 31 = .ok (.lcmp, 1) := by decide +kernel
theorem d_M_common_32 : decode c_M_common 32 = .ok (.ifCond .eq 21, 3) := by decide +kernel
theorem d_M_common_35 : decode c_M_common 35 = .ok (.lload 4, 2) := by decide +kernel
theorem d_M_common_37 : decode c_M_common 37 = .ok (.lload 6, 2) := by decide +kernel
theorem d_M_common_39 : decode c_M_common 39 = .ok (.lrem, 1) := by decide +kernel
theorem d_M_common_40 : decode c_M_common 40 = .ok (.lstore 8, 2) := by decide +kernel
theorem d_M_common_42 : decode c_M_common 42 = .ok (.lload 6, 2) := by decide +kernel
theorem d_M_common_44 : decode c_M_common 44 = .ok (.lstore 4, 2) := by decide +kernel
theorem d_M_common_46 : decode c_M_common 46 = .ok (.lload 8, 2) := by decide +kernel
theorem d_M_common_48 : decode c_M_common 48 = .ok (.lstore 6, 2) := by decide +kernel
theorem d_M_common_50 : decode c_M_common 50 = .ok (.goto (-22), 3) := by decide +kernel
theorem d_M_common_53 : decode c_M_common 53 = .ok (.lload 4, 2) := by decide +kernel
theorem d_M_common_55 : decode c_M_common 55 = .ok (.lreturn, 1) := by decide +kernel
theorem d_M_make_0 : decode c_M_make 0 = .ok (.lload_n 1, 1) := by decide +kernel
theorem d_M_make_1 : decode c_M_make 1 = .ok (.lload_n 3, 1) := by decide +kernel
theorem d_M_make_2 : decode c_M_make 2 = .ok (.invokestatic 42, 3) := by decide +kernel
theorem d_M_make_5 : decode c_M_make 5 = .ok (.lstore 6, 2) := by decide +kernel
theorem d_M_make_7 : decode c_M_make 7 = .ok (.lload_n 3, 1) := by decide +kernel
theorem d_M_make_8 : decode c_M_make 8 = .ok (.lconst 0, 1) := by decide +kernel
theorem d_M_make_9 : decode c_M_make 9 = .ok (.lcmp, 1) := by decide +kernel
theorem d_M_make_10 : decode c_M_make 10 = .ok (.ifCond .ge 8, 3) := by decide +kernel
theorem d_M_make_13 : decode c_M_make 13 = .ok (.lload_n 1, 1) := by decide +kernel
theorem d_M_make_14 : decode c_M_make 14 = .ok (.lneg, 1) := by decide +kernel
theorem d_M_make_15 : decode c_M_make 15 = .ok (.goto 4, 3) := by decide +kernel
theorem d_M_make_18 : decode c_M_make 18 = .ok (.lload_n 1, 1) := by decide +kernel
theorem d_M_make_19 : decode c_M_make 19 = .ok (.lload 6, 2) := by decide +kernel
theorem d_M_make_21 : decode c_M_make 21 = .ok (.ldiv, 1) := by decide +kernel
theorem d_M_make_22 : decode c_M_make 22 = .ok (.lstore 8, 2) := by decide +kernel
theorem d_M_make_24 : decode c_M_make 24 = .ok (.lload_n 3, 1) := by decide +kernel
theorem d_M_make_25 : decode c_M_make 25 = .ok (.lconst 0, 1) := by decide +kernel
theorem d_M_make_26 : decode c_M_make 26 = .ok (.lcmp, 1) := by decide +kernel
theorem d_M_make_27 : decode c_M_make 27 = .ok (.ifCond .ge 8, 3) := by decide +kernel
theorem d_M_make_30 : decode c_M_make 30 = .ok (.lload_n 3, 1) := by decide +kernel
theorem d_M_make_31 : decode c_M_make 31 = .ok (.lneg, 1) := by decide +kernel
theorem d_M_make_32 : decode c_M_make 32 = .ok (.goto 4, 3) := by decide +kernel
theorem d_M_make_35 : decode c_M_make 35 = .ok (.lload_n 3, 1) := by decide +kernel
theorem d_M_make_36 : decode c_M_make 36 = .ok (.lload 6, 2) := by decide +kernel
theorem d_M_make_38 : decode c_M_make 38 = .ok (.ldiv, 1) := by decide +kernel
theorem d_M_make_39 : decode c_M_make 39 = .ok (.lstore 10, 2) := by decide +kernel
theorem d_M_make_41 : decode c_M_make 41 = .ok (.lload 8, 2) := by decide +kernel
theorem d_M_make_43 : decode c_M_make 43 = .ok (.ldc2_w 46, 3) := by decide +kernel
theorem d_M_make_46 : decode c_M_make 46 = .ok (.lcmp, 1) := by decide +kernel
theorem d_M_make_47 : decode c_M_make 47 = .ok (.ifCond .gt 31, 3) := by decide +kernel
theorem d_M_make_50 : decode c_M_make 50 = .ok (.lload 8, 2) := by decide +kernel
theorem d_M_make_52 : decode c_M_make 52 = .ok (.ldc2_w 48, 3) := by decide +kernel
theorem d_M_make_55 : decode c_M_make 55 = .ok (.lcmp, 1) := by decide +kernel
theorem d_M_make_56 : decode c_M_make 56 = .ok (.ifCond .lt 22, 3) := by decide +kernel
theorem d_M_make_59 : decode c_M_make 59 = .ok (.lload 10, 2) := by decide +kernel
theorem d_M_make_61 : decode c_M_make 61 = .ok (.ldc2_w 46, 3) := by decide +kernel
theorem d_M_make_64 : decode c_M_make 64 = .ok (.lcmp, 1) := by decide +kernel
theorem d_M_make_65 : decode c_M_make 65 = .ok (.ifCond .gt 13, 3) := by decide +kernel
theorem d_M_make_68 : decode c_M_make 68 = .ok (.aload_n 0, 1) := by decide +kernel
theorem d_M_make_69 : decode c_M_make 69 = .ok (.getfield 39, 3) := by decide +kernel
theorem d_M_make_72 : decode c_M_make 72 = .ok (.sipush 500, 3) := by decide +kernel
theorem d_M_make_75 : decode c_M_make 75 = .ok (.if_icmp .ne 6, 3) := by decide +kernel
theorem d_M_make_78 : decode c_M_make 78 = .ok (.bipush (-2), 2) := by decide +kernel
theorem d_M_make_80 : decode c_M_make 80 = .ok (.ireturn, 1) := by decide +kernel
theorem d_M_make_81 : decode c_M_make 81 = .ok (.aload_n 0, 1) := by decide +kernel
theorem d_M_make_82 : decode c_M_make 82 = .ok (.getfield 7, 3) := by decide +kernel
theorem d_M_make_85 : decode c_M_make 85 = .ok (.aload_n 0, 1) := by decide +kernel
theorem d_M_make_86 : decode c_M_make 86 = .ok (.getfield 39, 3) := by decide +kernel
theorem d_M_make_89 : decode c_M_make 89 = .ok (.lload 8, 2) := by decide +kernel
theorem d_M_make_91 : decode c_M_make 91 = .ok (.lastore, 1) := by decide +kernel
theorem d_M_make_92 : decode c_M_make 92 = .ok (.aload_n 0, 1) := by decide +kernel
theorem d_M_make_93 : decode c_M_make 93 = .ok (.getfield 13, 3) := by decide +kernel
theorem d_M_make_96 : decode c_M_make 96 = .ok (.aload_n 0, 1) := by decide +kernel
theorem d_M_make_97 : decode c_M_make 97 = .ok (.getfield 39, 3) := by decide +kernel
theorem d_M_make_100 : decode c_M_make 100 = .ok (.lload 10, 2) := by decide +kernel
theorem d_M_make_102 : decode c_M_make 102 = .ok (.lastore, 1) := by decide +kernel
theorem d_M_make_103 : decode c_M_make 103 = .ok (.aload_n 0, 1) := by decide +kernel
theorem d_M_make_104 : decode c_M_make 104 = .ok (.getfield 16, 3) := by decide +kernel
theorem d_M_make_107 : decode c_M_make 107 = .ok (.aload_n 0, 1) := by decide +kernel
theorem d_M_make_108 : decode c_M_make 108 = .ok (.getfield 39, 3) := by decide +kernel
theorem d_M_make_111 : decode c_M_make 111 = .ok (.iload 5, 2) := by decide +kernel
theorem d_M_make_113 : decode c_M_make 113 = .ok (.iastore, 1) := by decide +kernel
theorem d_M_make_114 : decode c_M_make 114 = .ok (.aload_n 0, 1) := by decide +kernel
theorem d_M_make_115 : decode c_M_make 115 = .ok (.dup, 1) := by decide +kernel
theorem d_M_make_116 : decode c_M_make 116 = .ok (.getfield 39, 3) := by decide +kernel
theorem d_M_make_119 : decode c_M_make 119 = .ok (.iconst 1, 1) := by decide +kernel
theorem d_M_make_120 : decode c_M_make 120 = .ok (.iadd, 1) := by decide +kernel
theorem d_M_make_121 : decode c_M_make 121 = .ok (.putfield 39, 3) := by decide +kernel
theorem d_M_make_124 : decode c_M_make 124 = .ok (.aload_n 0, 1) := by decide +kernel
theorem d_M_make_125 : decode c_M_make 125 = .ok (.getfield 39, 3) := by decide +kernel
theorem d_M_make_128 : decode c_M_make 128 = .ok (.iconst 1, 1) := by decide +kernel
theorem d_M_make_129 : decode c_M_make 129 = .ok (.isub, 1) := by decide +kernel
theorem d_M_make_130 : decode c_M_make 130 = .ok (.ireturn, 1) := by decide +kernel
theorem d_M_value_0 : decode c_M_value 0 = .ok (.aload_n 0, 1) := by decide +kernel
theorem d_M_value_1 : decode c_M_value 1 = .ok (.lload_n 3, 1) := by decide +kernel
theorem d_M_value_2 : decode c_M_value 2 = .ok (.lconst 0, 1) := by decide +kernel
theorem d_M_value_3 : decode c_M_value 3 = .ok (.lcmp, 1) := by decide +kernel
theorem d_M_value_4 : decode c_M_value 4 = .ok (.ifCond .ne 7, 3) := by decide +kernel
theorem d_M_value_7 : decode c_M_value 7 = .ok (.iconst 1, 1) := by decide +kernel
theorem d_M_value_8 : decode c_M_value 8 = .ok (.goto 4, 3) := by decide +kernel
theorem d_M_value_11 : decode c_M_value 11 = .ok (.iconst 0, 1) := by decide +kernel
theorem d_M_value_12 : decode c_M_value 12 = .ok (.putfield 35, 3) := by decide +kernel
theorem d_M_value_15 : decode c_M_value 15 = .ok (.aload_n 0, 1) := by decide +kernel
theorem d_M_value_16 : decode c_M_value 16 = .ok (.getfield 35, 3) := by decide +kernel
theorem d_M_value_19 : decode c_M_value 19 = .ok (.ifCond .le 5, 3) := by decide +kernel
theorem d_M_value_22 : decode c_M_value 22 = .ok (.iconst 0, 1) := by decide +kernel
theorem d_M_value_23 : decode c_M_value 23 = .ok (.ireturn, 1) := by decide +kernel
theorem d_M_value_24 : decode c_M_value 24 = .ok (.iload 5, 2) := by decide +kernel
theorem d_M_value_26 : decode c_M_value 26 = .ok (.ifCond .lt 41, 3) := by decide +kernel
theorem d_M_value_29 : decode c_M_value 29 = .ok (.iload 5, 2) := by decide +kernel
theorem d_M_value_31 : decode c_M_value 31 = .ok (.iconst 4, 1) := by decide +kernel
theorem d_M_value_32 : decode c_M_value 32 = .ok (.if_icmp .gt 35, 3) := by decide +kernel
theorem d_M_value_35 : decode c_M_value 35 = .ok (.lload_n 1, 1) := by decide +kernel
theorem d_M_value_36 : decode c_M_value 36 = .ok (.ldc2_w 50, 3) := by decide +kernel
theorem d_M_value_39 : decode c_M_value 39 = .ok (.lcmp, 1) := by decide +kernel
theorem d_M_value_40 : decode c_M_value 40 = .ok (.ifCond .le 27, 3) := by decide +kernel
theorem d_M_value_43 : decode c_M_value 43 = .ok (.lload_n 1, 1) := by decide +kernel
theorem d_M_value_44 : decode c_M_value 44 = .ok (.ldc2_w 52, 3) := by decide +kernel
theorem d_M_value_47 : decode c_M_value 47 = .ok (.lcmp, 1) := by decide +kernel
theorem d_M_value_48 : decode c_M_value 48 = .ok (.ifCond .ge 19, 3) := by decide +kernel
theorem d_M_value_51 : decode c_M_value 51 = .ok (.lload_n 3, 1) := by decide +kernel
theorem d_M_value_52 : decode c_M_value 52 = .ok (.ldc2_w 50, 3) := by decide +kernel
theorem d_M_value_55 : decode c_M_value 55 = .ok (.lcmp, 1) := by decide +kernel
theorem d_M_value_56 : decode c_M_value 56 = .ok (.ifCond .le 11, 3) := by decide +kernel
theorem d_M_value_59 : decode c_M_value 59 = .ok (.lload_n 3, 1) := by decide +kernel
theorem d_M_value_60 : decode c_M_value 60 = .ok (.ldc2_w 52, 3) := by decide +kernel
theorem d_M_value_63 : decode c_M_value 63 = .ok (.lcmp, 1) := by decide +kernel
theorem d_M_value_64 : decode c_M_value 64 = .ok (.ifCond .lt 6, 3) := by decide +kernel
theorem d_M_value_67 : decode c_M_value 67 = .ok (.bipush (-3), 2) := by decide +kernel
theorem d_M_value_69 : decode c_M_value 69 = .ok (.ireturn, 1) := by decide +kernel
theorem d_M_value_70 : decode c_M_value 70 = .ok (.aload_n 0, 1) := by decide +kernel
theorem d_M_value_71 : decode c_M_value 71 = .ok (.lload_n 1, 1) := by decide +kernel
theorem d_M_value_72 : decode c_M_value 72 = .ok (.lload_n 3, 1) := by decide +kernel
theorem d_M_value_73 : decode c_M_value 73 = .ok (.iload 5, 2) := by decide +kernel
theorem d_M_value_75 : decode c_M_value 75 = .ok (.invokevirtual 54, 3) := by decide +kernel
theorem d_M_value_78 : decode c_M_value 78 = .ok (.ireturn, 1) := by decide +kernel
theorem d_M_add_0 : decode c_M_add 0 = .ok (.aload_n 0, 1) := by decide +kernel
theorem d_M_add_1 : decode c_M_add 1 = .ok (.iconst 0, 1) := by decide +kernel
theorem d_M_add_2 : decode c_M_add 2 = .ok (.putfield 35, 3) := by decide +kernel
theorem d_M_add_5 : decode c_M_add 5 = .ok (.aload_n 0, 1) := by decide +kernel
theorem d_M_add_6 : decode c_M_add 6 = .ok (.iload_n 1, 1) := by decide +kernel
theorem d_M_add_7 : decode c_M_add 7 = .ok (.invokevirtual 58, 3) := by decide +kernel
theorem d_M_add_10 : decode c_M_add 10 = .ok (.ifCond .eq 11, 3) := by decide +kernel
theorem d_M_add_13 : decode c_M_add 13 = .ok (.aload_n 0, 1) := by decide +kernel
theorem d_M_add_14 : decode c_M_add 14 = .ok (.iload_n 2, 1) := by decide +kernel
theorem d_M_add_15 : decode c_M_add 15 = .ok (.invokevirtual 58, 3) := by decide +kernel
theorem d_M_add_18 : decode c_M_add 18 = .ok (.ifCond .ne 6, 3) := by decide +kernel
theorem d_M_add_21 : decode c_M_add 21 = .ok (.bipush (-3), 2) := by decide +kernel
theorem d_M_add_23 : decode c_M_add 23 = .ok (.ireturn, 1) := by decide +kernel
theorem d_M_add_24 : decode c_M_add 24 = .ok (.aload_n 0, 1) := by decide +kernel
theorem d_M_add_25 : decode c_M_add 25 = .ok (.getfield 16, 3) := by decide +kernel
theorem d_M_add_28 : decode c_M_add 28 = .ok (.iload_n 1, 1) := by decide +kernel
theorem d_M_add_29 : decode c_M_add 29 = .ok (.iaload, 1) := by decide +kernel
theorem d_M_add_30 : decode c_M_add 30 = .ok (.aload_n 0, 1) := by decide +kernel
theorem d_M_add_31 : decode c_M_add 31 = .ok (.getfield 16, 3) := by decide +kernel
theorem d_M_add_34 : decode c_M_add 34 = .ok (.iload_n 2, 1) := by decide +kernel
theorem d_M_add_35 : decode c_M_add 35 = .ok (.iaload, 1) := by decide +kernel
theorem d_M_add_36 : decode c_M_add 36 = .ok (.if_icmp .eq 5, 3) := by decide +kernel
theorem d_M_add_39 : decode c_M_add 39 = .ok (.iconst (-1), 1) := by decide +kernel
theorem d_M_add_40 : decode c_M_add 40 = .ok (.ireturn, 1) := by decide +kernel
theorem d_M_add_41 : decode c_M_add 41 = .ok (.aload_n 0, 1) := by decide +kernel
theorem d_M_add_42 : decode c_M_add 42 = .ok (.aload_n 0, 1) := by decide +kernel
theorem d_M_add_43 : decode c_M_add 43 = .ok (.getfield 7, 3) := by decide +kernel
theorem d_M_add_46 : decode c_M_add 46 = .ok (.iload_n 1, 1) := by decide +kernel
theorem d_M_add_47 : decode c_M_add 47 = .ok (.laload, 1) := by decide +kernel
theorem d_M_add_48 : decode c_M_add 48 = .ok (.aload_n 0, 1) := by decide +kernel
theorem d_M_add_49 : decode c_M_add 49 = .ok (.getfield 13, 3) := by decide +kernel
theorem d_M_add_52 : decode c_M_add 52 = .ok (.iload_n 2, 1) := by decide +kernel
theorem d_M_add_53 : decode c_M_add 53 = .ok (.laload, 1) := by decide +kernel
theorem d_M_add_54 : decode c_M_add 54 = .ok (.lmul, 1) := by decide +kernel
theorem d_M_add_55 : decode c_M_add 55 = .ok (.aload_n 0, 1) := by decide +kernel
theorem d_M_add_56 : decode c_M_add 56 = .ok (.getfield 7, 3) := by decide +kernel
theorem d_M_add_59 : decode c_M_add 59 = .ok (.iload_n 2, 1) := by decide +kernel
theorem d_M_add_60 : decode c_M_add 60 = .ok (.laload, 1) := by decide +kernel
theorem d_M_add_61 : decode c_M_add 61 = .ok (.aload_n 0, 1) := by decide +kernel
theorem d_M_add_62 : decode c_M_add 62 = .ok (.getfield 13, 3) := by decide +kernel
theorem d_M_add_65 : decode c_M_add 65 = .ok (.iload_n 1, 1) := by decide +kernel
theorem d_M_add_66 : decode c_M_add 66 = .ok (.laload, 1) := by decide +kernel
theorem d_M_add_67 : decode c_M_add 67 = .ok (.lmul, 1) := by decide +kernel
theorem d_M_add_68 : decode c_M_add 68 = .ok (.ladd, 1) := by decide +kernel
theorem d_M_add_69 : decode c_M_add 69 = .ok (.aload_n 0, 1) := by decide +kernel
theorem d_M_add_70 : decode c_M_add 70 = .ok (.getfield 13, 3) := by decide +kernel
theorem d_M_add_73 : decode c_M_add 73 = .ok (.iload_n 1, 1) := by decide +kernel
theorem d_M_add_74 : decode c_M_add 74 = .ok (.laload, 1) := by decide +kernel
theorem d_M_add_75 : decode c_M_add 75 = .ok (.aload_n 0, 1) := by decide +kernel
theorem d_M_add_76 : decode c_M_add 76 = .ok (.getfield 13, 3) := by decide +kernel
theorem d_M_add_79 : decode c_M_add 79 = .ok (.iload_n 2, 1) := by decide +kernel
theorem d_M_add_80 : decode c_M_add 80 = .ok (.laload, 1) := by decide +kernel
theorem d_M_add_81 : decode c_M_add 81 = .ok (.lmul, 1) := by decide +kernel
theorem d_M_add_82 : decode c_M_add 82 = .ok (.aload_n 0, 1) := by decide +kernel
theorem d_M_add_83 : decode c_M_add 83 = .ok (.getfield 16, 3) := by decide +kernel
theorem d_M_add_86 : decode c_M_add 86 = .ok (.iload_n 1, 1) := by decide +kernel
theorem d_M_add_87 : decode c_M_add 87 = .ok (.iaload, 1) := by decide +kernel
theorem d_M_add_88 : decode c_M_add 88 = .ok (.invokevirtual 54, 3) := by decide +kernel
theorem d_M_add_91 : decode c_M_add 91 = .ok (.ireturn, 1) := by decide +kernel
theorem d_M_areTwo_0 : decode c_M_areTwo 0 = .ok (.iload_n 0, 1) := by decide +kernel
theorem d_M_areTwo_1 : decode c_M_areTwo 1 = .ok (.iload_n 2, 1) := by decide +kernel
theorem d_M_areTwo_2 : decode c_M_areTwo 2 = .ok (.if_icmp .ne 8, 3) := by decide +kernel
theorem d_M_areTwo_5 : decode c_M_areTwo 5 = .ok (.iload_n 1, 1) := by decide +kernel
theorem d_M_areTwo_6 : decode c_M_areTwo 6 = .ok (.iload_n 3, 1) := by decide +kernel
theorem d_M_areTwo_7 : decode c_M_areTwo 7 = .ok (.if_icmp .eq 13, 3) := by decide +kernel
theorem d_M_areTwo_10 : decode c_M_areTwo 10 = .ok (.iload_n 0, 1) := by decide +kernel
theorem d_M_areTwo_11 : decode c_M_areTwo 11 = .ok (.iload_n 3, 1) := by decide +kernel
theorem d_M_areTwo_12 : decode c_M_areTwo 12 = .ok (.if_icmp .ne 12, 3) := by decide +kernel
theorem d_M_areTwo_15 : decode c_M_areTwo 15 = .ok (.iload_n 1, 1) := by decide +kernel
theorem d_M_areTwo_16 : decode c_M_areTwo 16 = .ok (.iload_n 2, 1) := by decide +kernel
theorem d_M_areTwo_17 : decode c_M_areTwo 17 = .ok (.if_icmp .ne 7, 3) := by decide +kernel
theorem d_M_areTwo_20 : decode c_M_areTwo 20 = .ok (.iconst 1, 1) := by decide +kernel
theorem d_M_areTwo_21 : decode c_M_areTwo 21 = .ok (.goto 4, 3) := by decide +kernel
theorem d_M_areTwo_24 : decode c_M_areTwo 24 = .ok (.iconst 0, 1) := by decide +kernel
theorem d_M_areTwo_25 : decode c_M_areTwo 25 = .ok (.ireturn, 1) := by decide +kernel
theorem d_M_times_0 : decode c_M_times 0 = .ok (.aload_n 0, 1) := by decide +kernel
theorem d_M_times_1 : decode c_M_times 1 = .ok (.iconst 0, 1) := by decide +kernel
theorem d_M_times_2 : decode c_M_times 2 = .ok (.putfield 35, 3) := by decide +kernel
theorem d_M_times_5 : decode c_M_times 5 = .ok (.aload_n 0, 1) := by decide +kernel
theorem d_M_times_6 : decode c_M_times 6 = .ok (.iload_n 1, 1) := by decide +kernel
theorem d_M_times_7 : decode c_M_times 7 = .ok (.invokevirtual 58, 3) := by decide +kernel
theorem d_M_times_10 : decode c_M_times 10 = .ok (.ifCond .eq 11, 3) := by decide +kernel
theorem d_M_times_13 : decode c_M_times 13 = .ok (.aload_n 0, 1) := by decide +kernel
theorem d_M_times_14 : decode c_M_times 14 = .ok (.iload_n 2, 1) := by decide +kernel
theorem d_M_times_15 : decode c_M_times 15 = .ok (.invokevirtual 58, 3) := by decide +kernel
theorem d_M_times_18 : decode c_M_times 18 = .ok (.ifCond .ne 6, 3) := by decide +kernel
theorem d_M_times_21 : decode c_M_times 21 = .ok (.bipush (-3), 2) := by decide +kernel
theorem d_M_times_23 : decode c_M_times 23 = .ok (.ireturn, 1) := by decide +kernel
theorem d_M_times_24 : decode c_M_times 24 = .ok (.aload_n 0, 1) := by decide +kernel
theorem d_M_times_25 : decode c_M_times 25 = .ok (.getfield 16, 3) := by decide +kernel
theorem d_M_times_28 : decode c_M_times 28 = .ok (.iload_n 1, 1) := by decide +kernel
theorem d_M_times_29 : decode c_M_times 29 = .ok (.iaload, 1) := by decide +kernel
theorem d_M_times_30 : decode c_M_times 30 = .ok (.istore_n 3, 1) := by decide +kernel
theorem d_M_times_31 : decode c_M_times 31 = .ok (.aload_n 0, 1) := by decide +kernel
theorem d_M_times_32 : decode c_M_times 32 = .ok (.getfield 16, 3) := by decide +kernel
theorem d_M_times_35 : decode c_M_times 35 = .ok (.iload_n 2, 1) := by decide +kernel
theorem d_M_times_36 : decode c_M_times 36 = .ok (.iaload, 1) := by decide +kernel
theorem d_M_times_37 : decode c_M_times 37 = .ok (.istore 4, 2) := by decide +kernel
theorem d_M_times_39 : decode c_M_times 39 = .ok (.iload_n 3, 1) := by decide +kernel
theorem d_M_times_40 : decode c_M_times 40 = .ok (.ifCond .ne 8, 3) := by decide +kernel
theorem d_M_times_43 : decode c_M_times 43 = .ok (.iload 4, 2) := by decide +kernel
theorem d_M_times_45 : decode c_M_times 45 = .ok (.goto 43, 3) := by decide +kernel
theorem d_M_times_48 : decode c_M_times 48 = .ok (.iload 4, 2) := by decide +kernel
theorem d_M_times_50 : decode c_M_times 50 = .ok (.ifCond .ne 7, 3) := by decide +kernel
theorem d_M_times_53 : decode c_M_times 53 = .ok (.iload_n 3, 1) := by decide +kernel
theorem d_M_times_54 : decode c_M_times 54 = .ok (.goto 34, 3) := by decide +kernel
theorem d_M_times_57 : decode c_M_times 57 = .ok (.iload_n 3, 1) := by decide +kernel
theorem d_M_times_58 : decode c_M_times 58 = .ok (.iload 4, 2) := by decide +kernel
theorem d_M_times_60 : decode c_M_times 60 = .ok (.iconst 2, 1) := by decide +kernel
theorem d_M_times_61 : decode c_M_times 61 = .ok (.iconst 3, 1) := by decide +kernel
theorem d_M_times_62 : decode c_M_times 62 = .ok (.invokestatic 62, 3) := by decide +kernel
theorem d_M_times_65 : decode c_M_times 65 = .ok (.ifCond .eq 7, 3) := by decide +kernel
theorem d_M_times_68 : decode c_M_times 68 = .ok (.iconst 2, 1) := by decide +kernel
theorem d_M_times_69 : decode c_M_times 69 = .ok (.goto 19, 3) := by decide +kernel
theorem d_M_times_72 : decode c_M_times 72 = .ok (.iload_n 3, 1) := by decide +kernel
theorem d_M_times_73 : decode c_M_times 73 = .ok (.iload 4, 2) := by decide +kernel
theorem d_M_times_75 : decode c_M_times 75 = .ok (.iconst 1, 1) := by decide +kernel
theorem d_M_times_76 : decode c_M_times 76 = .ok (.iconst 4, 1) := by decide +kernel
theorem d_M_times_77 : decode c_M_times 77 = .ok (.invokestatic 62, 3) := by decide +kernel
theorem d_M_times_80 : decode c_M_times 80 = .ok (.ifCond .eq 7, 3) := by decide +kernel
theorem d_M_times_83 : decode c_M_times 83 = .ok (.iconst 1, 1) := by decide +kernel
theorem d_M_times_84 : decode c_M_times 84 = .ok (.goto 4, 3) := by decide +kernel
theorem d_M_times_87 : decode c_M_times 87 = .ok (.iconst (-1), 1) := by decide +kernel
theorem d_M_times_88 : decode c_M_times 88 = .ok (.istore 5, 2) := by decide +kernel
theorem d_M_times_90 : decode c_M_times 90 = .ok (.iload 5, 2) := by decide +kernel
theorem d_M_times_92 : decode c_M_times 92 = .ok (.iconst (-1), 1) := by decide +kernel
theorem d_M_times_93 : decode c_M_times 93 = .ok (.if_icmp .ne 7, 3) := by decide +kernel
theorem d_M_times_96 : decode c_M_times 96 = .ok (.iconst (-1), 1) := by decide +kernel
theorem d_M_times_97 : decode c_M_times 97 = .ok (.goto 35, 3) := by decide +kernel
theorem d_M_times_100 : decode c_M_times 100 = .ok (.aload_n 0, 1) := by decide +kernel
theorem d_M_times_101 : decode c_M_times 101 = .ok (.aload_n 0, 1) := by decide +kernel
theorem d_M_times_102 : decode c_M_times 102 = .ok (.getfield 7, 3) := by decide +kernel
theorem d_M_times_105 : decode c_M_times 105 = .ok (.iload_n 1, 1) := by decide +kernel
theorem d_M_times_106 : decode c_M_times 106 = .ok (.laload, 1) := by decide +kernel
theorem d_M_times_107 : decode c_M_times 107 = .ok (.aload_n 0, 1) := by decide +kernel
theorem d_M_times_108 : decode c_M_times 108 = .ok (.getfield 7, 3) := by decide +kernel
theorem d_M_times_111 : decode c_M_times 111 = .ok (.iload_n 2, 1) := by decide +kernel
theorem d_M_times_112 : decode c_M_times 112 = .ok (.laload, 1) := by decide +kernel
theorem d_M_times_113 : decode c_M_times 113 = .ok (.lmul, 1) := by decide +kernel
theorem d_M_times_114 : decode c_M_times 114 = .ok (.aload_n 0, 1) := by decide +kernel
theorem d_M_times_115 : decode c_M_times 115 = .ok (.getfield 13, 3) := by decide +kernel
theorem d_M_times_118 : decode c_M_times 118 = .ok (.iload_n 1, 1) := by decide +kernel
theorem d_M_times_119 : decode c_M_times 119 = .ok (.laload, 1) := by decide +kernel
theorem d_M_times_120 : decode c_M_times 120 = .ok (.aload_n 0, 1) := by decide +kernel
theorem d_M_times_121 : decode c_M_times 121 = .ok (.getfield 13, 3) := by decide +kernel
theorem d_M_times_124 : decode c_M_times 124 = .ok (.iload_n 2, 1) := by decide +kernel
theorem d_M_times_125 : decode c_M_times 125 = .ok (.laload, 1) := by decide +kernel
theorem d_M_times_126 : decode c_M_times 126 = .ok (.lmul, 1) := by decide +kernel
theorem d_M_times_127 : decode c_M_times 127 = .ok (.iload 5, 2) := by decide +kernel
theorem d_M_times_129 : decode c_M_times 129 = .ok (.invokevirtual 54, 3) := by decide +kernel
theorem d_M_times_132 : decode c_M_times 132 = .ok (.ireturn, 1) := by decide +kernel
theorem d_M_over_0 : decode c_M_over 0 = .ok (.aload_n 0, 1) := by decide +kernel
theorem d_M_over_1 : decode c_M_over 1 = .ok (.iconst 0, 1) := by decide +kernel
theorem d_M_over_2 : decode c_M_over 2 = .ok (.putfield 35, 3) := by decide +kernel
theorem d_M_over_5 : decode c_M_over 5 = .ok (.aload_n 0, 1) := by decide +kernel
theorem d_M_over_6 : decode c_M_over 6 = .ok (.iload_n 1, 1) := by decide +kernel
theorem d_M_over_7 : decode c_M_over 7 = .ok (.invokevirtual 58, 3) := by decide +kernel
theorem d_M_over_10 : decode c_M_over 10 = .ok (.ifCond .eq 11, 3) := by decide +kernel
theorem d_M_over_13 : decode c_M_over 13 = .ok (.aload_n 0, 1) := by decide +kernel
theorem d_M_over_14 : decode c_M_over 14 = .ok (.iload_n 2, 1) := by decide +kernel
theorem d_M_over_15 : decode c_M_over 15 = .ok (.invokevirtual 58, 3) := by decide +kernel
theorem d_M_over_18 : decode c_M_over 18 = .ok (.ifCond .ne 6, 3) := by decide +kernel
theorem d_M_over_21 : decode c_M_over 21 = .ok (.bipush (-3), 2) := by decide +kernel
theorem d_M_over_23 : decode c_M_over 23 = .ok (.ireturn, 1) := by decide +kernel
theorem d_M_over_24 : decode c_M_over 24 = .ok (.aload_n 0, 1) := by decide +kernel
theorem d_M_over_25 : decode c_M_over 25 = .ok (.getfield 16, 3) := by decide +kernel
theorem d_M_over_28 : decode c_M_over 28 = .ok (.iload_n 1, 1) := by decide +kernel
theorem d_M_over_29 : decode c_M_over 29 = .ok (.iaload, 1) := by decide +kernel
theorem d_M_over_30 : decode c_M_over 30 = .ok (.istore_n 3, 1) := by decide +kernel
theorem d_M_over_31 : decode c_M_over 31 = .ok (.aload_n 0, 1) := by decide +kernel
theorem d_M_over_32 : decode c_M_over 32 = .ok (.getfield 16, 3) := by decide +kernel
theorem d_M_over_35 : decode c_M_over 35 = .ok (.iload_n 2, 1) := by decide +kernel
theorem d_M_over_36 : decode c_M_over 36 = .ok (.iaload, 1) := by decide +kernel
theorem d_M_over_37 : decode c_M_over 37 = .ok (.istore 4, 2) := by decide +kernel
theorem d_M_over_39 : decode c_M_over 39 = .ok (.iload_n 3, 1) := by decide +kernel
theorem d_M_over_40 : decode c_M_over 40 = .ok (.iload 4, 2) := by decide +kernel
theorem d_M_over_42 : decode c_M_over 42 = .ok (.if_icmp .ne 7, 3) := by decide +kernel
theorem d_M_over_45 : decode c_M_over 45 = .ok (.iconst 0, 1) := by decide +kernel
theorem d_M_over_46 : decode c_M_over 46 = .ok (.goto 43, 3) := by decide +kernel
theorem d_M_over_49 : decode c_M_over 49 = .ok (.iload 4, 2) := by decide +kernel
theorem d_M_over_51 : decode c_M_over 51 = .ok (.ifCond .ne 7, 3) := by decide +kernel
theorem d_M_over_54 : decode c_M_over 54 = .ok (.iload_n 3, 1) := by decide +kernel
theorem d_M_over_55 : decode c_M_over 55 = .ok (.goto 34, 3) := by decide +kernel
theorem d_M_over_58 : decode c_M_over 58 = .ok (.iload_n 3, 1) := by decide +kernel
theorem d_M_over_59 : decode c_M_over 59 = .ok (.iconst 2, 1) := by decide +kernel
theorem d_M_over_60 : decode c_M_over 60 = .ok (.if_icmp .ne 13, 3) := by decide +kernel
theorem d_M_over_63 : decode c_M_over 63 = .ok (.iload 4, 2) := by decide +kernel
theorem d_M_over_65 : decode c_M_over 65 = .ok (.iconst 3, 1) := by decide +kernel
theorem d_M_over_66 : decode c_M_over 66 = .ok (.if_icmp .ne 7, 3) := by decide +kernel
theorem d_M_over_69 : decode c_M_over 69 = .ok (.iconst 2, 1) := by decide +kernel
theorem d_M_over_70 : decode c_M_over 70 = .ok (.goto 19, 3) := by decide +kernel
theorem d_M_over_73 : decode c_M_over 73 = .ok (.iload_n 3, 1) := by decide +kernel
theorem d_M_over_74 : decode c_M_over 74 = .ok (.iconst 1, 1) := by decide +kernel
theorem d_M_over_75 : decode c_M_over 75 = .ok (.if_icmp .ne 13, 3) := by decide +kernel
theorem d_M_over_78 : decode c_M_over 78 = .ok (.iload 4, 2) := by decide +kernel
theorem d_M_over_80 : decode c_M_over 80 = .ok (.iconst 4, 1) := by decide +kernel
theorem d_M_over_81 : decode c_M_over 81 = .ok (.if_icmp .ne 7, 3) := by decide +kernel
theorem d_M_over_84 : decode c_M_over 84 = .ok (.iconst 1, 1) := by decide +kernel
theorem d_M_over_85 : decode c_M_over 85 = .ok (.goto 4, 3) := by decide +kernel
theorem d_M_over_88 : decode c_M_over 88 = .ok (.iconst (-1), 1) := by decide +kernel
theorem d_M_over_89 : decode c_M_over 89 = .ok (.istore 5, 2) := by decide +kernel
theorem d_M_over_91 : decode c_M_over 91 = .ok (.iload 5, 2) := by decide +kernel
theorem d_M_over_93 : decode c_M_over 93 = .ok (.iconst (-1), 1) := by decide +kernel
theorem d_M_over_94 : decode c_M_over 94 = .ok (.if_icmp .ne 5, 3) := by decide +kernel
theorem d_M_over_97 : decode c_M_over 97 = .ok (.iconst (-1), 1) := by decide +kernel
theorem d_M_over_98 : decode c_M_over 98 = .ok (.ireturn, 1) := by decide +kernel
theorem d_M_over_99 : decode c_M_over 99 = .ok (.aload_n 0, 1) := by decide +kernel
theorem d_M_over_100 : decode c_M_over 100 = .ok (.aload_n 0, 1) := by decide +kernel
theorem d_M_over_101 : decode c_M_over 101 = .ok (.getfield 7, 3) := by decide +kernel
theorem d_M_over_104 : decode c_M_over 104 = .ok (.iload_n 2, 1) := by decide +kernel
theorem d_M_over_105 : decode c_M_over 105 = .ok (.laload, 1) := by decide +kernel
theorem d_M_over_106 : decode c_M_over 106 = .ok (.lconst 0, 1) := by decide +kernel
theorem d_M_over_107 : decode c_M_over 107 = .ok (.lcmp, 1) := by decide +kernel
theorem d_M_over_108 : decode c_M_over 108 = .ok (.ifCond .ne 7, 3) := by decide +kernel
theorem d_M_over_111 : decode c_M_over 111 = .ok (.iconst 1, 1) := by decide +kernel
theorem d_M_over_112 : decode c_M_over 112 = .ok (.goto 4, 3) := by decide +kernel
theorem d_M_over_115 : decode c_M_over 115 = .ok (.iconst 0, 1) := by decide +kernel
theorem d_M_over_116 : decode c_M_over 116 = .ok (.putfield 35, 3) := by decide +kernel
theorem d_M_over_119 : decode c_M_over 119 = .ok (.aload_n 0, 1) := by decide +kernel
theorem d_M_over_120 : decode c_M_over 120 = .ok (.getfield 35, 3) := by decide +kernel
theorem d_M_over_123 : decode c_M_over 123 = .ok (.ifCond .le 7, 3) := by decide +kernel
theorem d_M_over_126 : decode c_M_over 126 = .ok (.iconst 0, 1) := by decide +kernel
theorem d_M_over_127 : decode c_M_over 127 = .ok (.goto 35, 3) := by decide +kernel
theorem d_M_over_130 : decode c_M_over 130 = .ok (.aload_n 0, 1) := by decide +kernel
theorem d_M_over_131 : decode c_M_over 131 = .ok (.aload_n 0, 1) := by decide +kernel
theorem d_M_over_132 : decode c_M_over 132 = .ok (.getfield 7, 3) := by decide +kernel
theorem d_M_over_135 : decode c_M_over 135 = .ok (.iload_n 1, 1) := by decide +kernel
theorem d_M_over_136 : decode c_M_over 136 = .ok (.laload, 1) := by decide +kernel
theorem d_M_over_137 : decode c_M_over 137 = .ok (.aload_n 0, 1) := by decide +kernel
theorem d_M_over_138 : decode c_M_over 138 = .ok (.getfield 13, 3) := by decide +kernel
theorem d_M_over_141 : decode c_M_over 141 = .ok (.iload_n 2, 1) := by decide +kernel
theorem d_M_over_142 : decode c_M_over 142 = .ok (.laload, 1) := by decide +kernel
theorem d_M_over_143 : decode c_M_over 143 = .ok (.lmul, 1) := by decide +kernel
theorem d_M_over_144 : decode c_M_over 144 = .ok (.aload_n 0, 1) := by decide +kernel
theorem d_M_over_145 : decode c_M_over 145 = .ok (.getfield 13, 3) := by decide +kernel
theorem d_M_over_148 : decode c_M_over 148 = .ok (.iload_n 1, 1) := by decide +kernel
theorem d_M_over_149 : decode c_M_over 149 = .ok (.laload, 1) := by decide +kernel
theorem d_M_over_150 : decode c_M_over 150 = .ok (.aload_n 0, 1) := by decide +kernel
theorem d_M_over_151 : decode c_M_over 151 = .ok (.getfield 7, 3) := by decide +kernel
theorem d_M_over_154 : decode c_M_over 154 = .ok (.iload_n 2, 1) := by decide +kernel
theorem d_M_over_155 : decode c_M_over 155 = .ok (.laload, 1) := by decide +kernel
theorem d_M_over_156 : decode c_M_over 156 = .ok (.lmul, 1) := by decide +kernel
theorem d_M_over_157 : decode c_M_over 157 = .ok (.iload 5, 2) := by decide +kernel
theorem d_M_over_159 : decode c_M_over 159 = .ok (.invokevirtual 54, 3) := by decide +kernel
theorem d_M_over_162 : decode c_M_over 162 = .ok (.ireturn, 1) := by decide +kernel
theorem d_M_isUpper_0 : decode c_M_isUpper 0 = .ok (.lload_n 1, 1) := by decide +kernel
theorem d_M_isUpper_1 : decode c_M_isUpper 1 = .ok (.lconst 0, 1) := by decide +kernel
theorem d_M_isUpper_2 : decode c_M_isUpper 2 = .ok (.lcmp, 1) := by decide +kernel
theorem d_M_isUpper_3 : decode c_M_isUpper 3 = .ok (.ifCond .ge 7, 3) := by decide +kernel
theorem d_M_isUpper_6 : decode c_M_isUpper 6 = .ok (.iconst 1, 1) := by decide +kernel
theorem d_M_isUpper_7 : decode c_M_isUpper 7 = .ok (.goto 4, 3) := by decide +kernel
theorem d_M_isUpper_10 : decode c_M_isUpper 10 = .ok (.iconst 0, 1) := by decide +kernel
theorem d_M_isUpper_11 : decode c_M_isUpper 11 = .ok (.istore 7, 2) := by decide +kernel
theorem d_M_isUpper_13 : decode c_M_isUpper 13 = .ok (.iload_n 0, 1) := by decide +kernel
theorem d_M_isUpper_14 : decode c_M_isUpper 14 = .ok (.tableswitch 106 0 5 #[38, 40, 42, 45, 56, 73], 38) := by decide +kernel
theorem d_M_isUpper_52 : decode c_M_isUpper 52 = .ok (.iconst 0, 1) := by decide +kernel
theorem d_M_isUpper_53 : decode c_M_isUpper 53 = .ok (.ireturn, 1) := by decide +kernel
theorem d_M_isUpper_54 : decode c_M_isUpper 54 = .ok (.iconst 1, 1) := by decide +kernel
theorem d_M_isUpper_55 : decode c_M_isUpper 55 = .ok (.ireturn, 1) := by decide +kernel
theorem d_M_isUpper_56 : decode c_M_isUpper 56 = .ok (.iload 7, 2) := by decide +kernel
theorem d_M_isUpper_58 : decode c_M_isUpper 58 = .ok (.ireturn, 1) := by decide +kernel
theorem d_M_isUpper_59 : decode c_M_isUpper 59 = .ok (.iload 7, 2) := by decide +kernel
theorem d_M_isUpper_61 : decode c_M_isUpper 61 = .ok (.ifCond .ne 7, 3) := by decide +kernel
theorem d_M_isUpper_64 : decode c_M_isUpper 64 = .ok (.iconst 1, 1) := by decide +kernel
theorem d_M_isUpper_65 : decode c_M_isUpper 65 = .ok (.goto 4, 3) := by decide +kernel
theorem d_M_isUpper_68 : decode c_M_isUpper 68 = .ok (.iconst 0, 1) := by decide +kernel
theorem d_M_isUpper_69 : decode c_M_isUpper 69 = .ok (.ireturn, 1) := by decide +kernel
theorem d_M_isUpper_70 : decode c_M_isUpper 70 = .ok (.ldc2_w 66, 3) := by decide +kernel
theorem d_M_isUpper_73 : decode c_M_isUpper 73 = .ok (.lload_n 3, 1) := by decide +kernel
theorem d_M_isUpper_74 : decode c_M_isUpper 74 = .ok (.lmul, 1) := by decide +kernel
theorem d_M_isUpper_75 : decode c_M_isUpper 75 = .ok (.lload 5, 2) := by decide +kernel
theorem d_M_isUpper_77 : decode c_M_isUpper 77 = .ok (.lcmp, 1) := by decide +kernel
theorem d_M_isUpper_78 : decode c_M_isUpper 78 = .ok (.ifCond .lt 7, 3) := by decide +kernel
theorem d_M_isUpper_81 : decode c_M_isUpper 81 = .ok (.iconst 1, 1) := by decide +kernel
theorem d_M_isUpper_82 : decode c_M_isUpper 82 = .ok (.goto 4, 3) := by decide +kernel
theorem d_M_isUpper_85 : decode c_M_isUpper 85 = .ok (.iconst 0, 1) := by decide +kernel
theorem d_M_isUpper_86 : decode c_M_isUpper 86 = .ok (.ireturn, 1) := by decide +kernel
theorem d_M_isUpper_87 : decode c_M_isUpper 87 = .ok (.ldc2_w 66, 3) := by decide +kernel
theorem d_M_isUpper_90 : decode c_M_isUpper 90 = .ok (.lload_n 3, 1) := by decide +kernel
theorem d_M_isUpper_91 : decode c_M_isUpper 91 = .ok (.lmul, 1) := by decide +kernel
theorem d_M_isUpper_92 : decode c_M_isUpper 92 = .ok (.lload 5, 2) := by decide +kernel
theorem d_M_isUpper_94 : decode c_M_isUpper 94 = .ok (.lcmp, 1) := by decide +kernel
theorem d_M_isUpper_95 : decode c_M_isUpper 95 = .ok (.ifCond .gt 19, 3) := by decide +kernel
theorem d_M_isUpper_98 : decode c_M_isUpper 98 = .ok (.ldc2_w 66, 3) := by decide +kernel
theorem d_M_isUpper_101 : decode c_M_isUpper 101 = .ok (.lload_n 3, 1) := by decide +kernel
theorem d_M_isUpper_102 : decode c_M_isUpper 102 = .ok (.lmul, 1) := by decide +kernel
theorem d_M_isUpper_103 : decode c_M_isUpper 103 = .ok (.lload 5, 2) := by decide +kernel
theorem d_M_isUpper_105 : decode c_M_isUpper 105 = .ok (.lcmp, 1) := by decide +kernel
theorem d_M_isUpper_106 : decode c_M_isUpper 106 = .ok (.ifCond .ne 12, 3) := by decide +kernel
theorem d_M_isUpper_109 : decode c_M_isUpper 109 = .ok (.iload 7, 2) := by decide +kernel
theorem d_M_isUpper_111 : decode c_M_isUpper 111 = .ok (.ifCond .ne 7, 3) := by decide +kernel
theorem d_M_isUpper_114 : decode c_M_isUpper 114 = .ok (.iconst 1, 1) := by decide +kernel
theorem d_M_isUpper_115 : decode c_M_isUpper 115 = .ok (.goto 4, 3) := by decide +kernel
theorem d_M_isUpper_118 : decode c_M_isUpper 118 = .ok (.iconst 0, 1) := by decide +kernel
theorem d_M_isUpper_119 : decode c_M_isUpper 119 = .ok (.ireturn, 1) := by decide +kernel
theorem d_M_isUpper_120 : decode c_M_isUpper 120 = .ok (.ldc2_w 66, 3) := by decide +kernel
theorem d_M_isUpper_123 : decode c_M_isUpper 123 = .ok (.lload_n 3, 1) := by decide +kernel
theorem d_M_isUpper_124 : decode c_M_isUpper 124 = .ok (.lmul, 1) := by decide +kernel
theorem d_M_isUpper_125 : decode c_M_isUpper 125 = .ok (.lload 5, 2) := by decide +kernel
theorem d_M_isUpper_127 : decode c_M_isUpper 127 = .ok (.lcmp, 1) := by decide +kernel
theorem d_M_isUpper_128 : decode c_M_isUpper 128 = .ok (.ifCond .gt 24, 3) := by decide +kernel
theorem d_M_isUpper_131 : decode c_M_isUpper 131 = .ok (.ldc2_w 66, 3) := by decide +kernel
theorem d_M_isUpper_134 : decode c_M_isUpper 134 = .ok (.lload_n 3, 1) := by decide +kernel
theorem d_M_isUpper_135 : decode c_M_isUpper 135 = .ok (.lmul, 1) := by decide +kernel
theorem d_M_isUpper_136 : decode c_M_isUpper 136 = .ok (.lload 5, 2) := by decide +kernel
theorem d_M_isUpper_138 : decode c_M_isUpper 138 = .ok (.lcmp, 1) := by decide +kernel
theorem d_M_isUpper_139 : decode c_M_isUpper 139 = .ok (.ifCond .ne 17, 3) := by decide +kernel
theorem d_M_isUpper_142 : decode c_M_isUpper 142 = .ok (.lload_n 1, 1) := by decide +kernel
theorem d_M_isUpper_143 : decode c_M_isUpper 143 = .ok (.ldc2_w 66, 3) := by decide +kernel
theorem d_M_isUpper_146 : decode c_M_isUpper 146 = .ok (.lrem, 1) := by decide +kernel
theorem d_M_isUpper_147 : decode c_M_isUpper 147 = .ok (.lconst 0, 1) := by decide +kernel
theorem d_M_isUpper_148 : decode c_M_isUpper 148 = .ok (.lcmp, 1) := by decide +kernel
theorem d_M_isUpper_149 : decode c_M_isUpper 149 = .ok (.ifCond .eq 7, 3) := by decide +kernel
theorem d_M_isUpper_152 : decode c_M_isUpper 152 = .ok (.iconst 1, 1) := by decide +kernel
theorem d_M_isUpper_153 : decode c_M_isUpper 153 = .ok (.goto 4, 3) := by decide +kernel
theorem d_M_isUpper_156 : decode c_M_isUpper 156 = .ok (.iconst 0, 1) := by decide +kernel
theorem d_M_isUpper_157 : decode c_M_isUpper 157 = .ok (.ireturn, 1) := by decide +kernel
theorem d_M_round_0 : decode c_M_round 0 = .ok (.aload_n 0, 1) := by decide +kernel
theorem d_M_round_1 : decode c_M_round 1 = .ok (.iconst 0, 1) := by decide +kernel
theorem d_M_round_2 : decode c_M_round 2 = .ok (.putfield 35, 3) := by decide +kernel
theorem d_M_round_5 : decode c_M_round 5 = .ok (.aload_n 0, 1) := by decide +kernel
theorem d_M_round_6 : decode c_M_round 6 = .ok (.iload_n 1, 1) := by decide +kernel
theorem d_M_round_7 : decode c_M_round 7 = .ok (.invokevirtual 58, 3) := by decide +kernel
theorem d_M_round_10 : decode c_M_round 10 = .ok (.ifCond .ne 6, 3) := by decide +kernel
theorem d_M_round_13 : decode c_M_round 13 = .ok (.bipush (-3), 2) := by decide +kernel
theorem d_M_round_15 : decode c_M_round 15 = .ok (.ireturn, 1) := by decide +kernel
theorem d_M_round_16 : decode c_M_round 16 = .ok (.iload_n 2, 1) := by decide +kernel
theorem d_M_round_17 : decode c_M_round 17 = .ok (.ifCond .lt 23, 3) := by decide +kernel
theorem d_M_round_20 : decode c_M_round 20 = .ok (.iload_n 2, 1) := by decide +kernel
theorem d_M_round_21 : decode c_M_round 21 = .ok (.bipush 6, 2) := by decide +kernel
theorem d_M_round_23 : decode c_M_round 23 = .ok (.if_icmp .gt 17, 3) := by decide +kernel
theorem d_M_round_26 : decode c_M_round 26 = .ok (.lload_n 3, 1) := by decide +kernel
theorem d_M_round_27 : decode c_M_round 27 = .ok (.lconst 1, 1) := by decide +kernel
theorem d_M_round_28 : decode c_M_round 28 = .ok (.lcmp, 1) := by decide +kernel
theorem d_M_round_29 : decode c_M_round 29 = .ok (.ifCond .lt 11, 3) := by decide +kernel
theorem d_M_round_32 : decode c_M_round 32 = .ok (.lload_n 3, 1) := by decide +kernel
theorem d_M_round_33 : decode c_M_round 33 = .ok (.ldc2_w 68, 3) := by decide +kernel
theorem d_M_round_36 : decode c_M_round 36 = .ok (.lcmp, 1) := by decide +kernel
theorem d_M_round_37 : decode c_M_round 37 = .ok (.ifCond .le 5, 3) := by decide +kernel
theorem d_M_round_40 : decode c_M_round 40 = .ok (.iconst (-1), 1) := by decide +kernel
theorem d_M_round_41 : decode c_M_round 41 = .ok (.ireturn, 1) := by decide +kernel
theorem d_M_round_42 : decode c_M_round 42 = .ok (.aload_n 0, 1) := by decide +kernel
theorem d_M_round_43 : decode c_M_round 43 = .ok (.getfield 7, 3) := by decide +kernel
theorem d_M_round_46 : decode c_M_round 46 = .ok (.iload_n 1, 1) := by decide +kernel
theorem d_M_round_47 : decode c_M_round 47 = .ok (.laload, 1) := by decide +kernel
theorem d_M_round_48 : decode c_M_round 48 = .ok (.lload_n 3, 1) := by decide +kernel
theorem d_M_round_49 : decode c_M_round 49 = .ok (.lmul, 1) := by decide +kernel
theorem d_M_round_50 : decode c_M_round 50 = .ok (.lstore 5, 2) := by decide +kernel
theorem d_M_round_52 : decode c_M_round 52 = .ok (.lload 5, 2) := by decide +kernel
theorem d_M_round_54 : decode c_M_round 54 = .ok (.aload_n 0, 1) := by decide +kernel
theorem d_M_round_55 : decode c_M_round 55 = .ok (.getfield 13, 3) := by decide +kernel
theorem d_M_round_58 : decode c_M_round 58 = .ok (.iload_n 1, 1) := by decide +kernel
theorem d_M_round_59 : decode c_M_round 59 = .ok (.laload, 1) := by decide +kernel
theorem d_M_round_60 : decode c_M_round 60 = .ok (.ldiv, 1) := by decide +kernel
theorem d_M_round_61 : decode c_M_round 61 = .ok (.lstore 7, 2) := by decide +kernel
theorem d_M_round_63 : decode c_M_round 63 = .ok (.lload 7, 2) := by decide +kernel
theorem d_M_round_65 : decode c_M_round 65 = .ok (.aload_n 0, 1) := by decide +kernel
theorem d_M_round_66 : decode c_M_round 66 = .ok (.getfield 13, 3) := by decide +kernel
theorem d_M_round_69 : decode c_M_round 69 = .ok (.iload_n 1, 1) := by decide +kernel
theorem d_M_round_70 : decode c_M_round 70 = .ok (.laload, 1) := by decide +kernel
theorem d_M_round_71 : decode c_M_round 71 = .ok (.lmul, 1) := by decide +kernel
theorem d_M_round_72 : decode c_M_round 72 = .ok (.lload 5, 2) := by decide +kernel
theorem d_M_round_74 : decode c_M_round 74 = .ok (.lcmp, 1) := by decide +kernel
theorem d_M_round_75 : decode c_M_round 75 = .ok (.ifCond .le 10, 3) := by decide +kernel
theorem d_M_round_78 : decode c_M_round 78 = .ok (.lload 7, 2) := by decide +kernel
theorem d_M_round_80 : decode c_M_round 80 = .ok (.lconst 1, 1) := by decide +kernel
theorem d_M_round_81 : decode c_M_round 81 = .ok (.lsub, 1) := by decide +kernel
theorem d_M_round_82 : decode c_M_round 82 = .ok (.goto 5, 3) := by decide +kernel
theorem d_M_round_85 : decode c_M_round 85 = .ok (.lload 7, 2) := by decide +kernel
theorem d_M_round_87 : decode c_M_round 87 = .ok (.lstore 7, 2) := by decide +kernel
theorem d_M_round_89 : decode c_M_round 89 = .ok (.lload 5, 2) := by decide +kernel
theorem d_M_round_91 : decode c_M_round 91 = .ok (.lload 7, 2) := by decide +kernel
theorem d_M_round_93 : decode c_M_round 93 = .ok (.aload_n 0, 1) := by decide +kernel
theorem d_M_round_94 : decode c_M_round 94 = .ok (.getfield 13, 3) := by decide +kernel
theorem d_M_round_97 : decode c_M_round 97 = .ok (.iload_n 1, 1) := by decide +kernel
theorem d_M_round_98 : decode c_M_round 98 = .ok (.laload, 1) := by decide +kernel
theorem d_M_round_99 : decode c_M_round 99 = .ok (.lmul, 1) := by decide +kernel
theorem d_M_round_100 : decode c_M_round 100 = .ok (.lsub, 1) := by decide +kernel
theorem d_M_round_101 : decode c_M_round 101 = .ok (.lstore 9, 2) := by decide +kernel
theorem d_M_round_103 : decode c_M_round 103 = .ok (.aload_n 0, 1) := by decide +kernel
theorem d_M_round_104 : decode c_M_round 104 = .ok (.lload 9, 2) := by decide +kernel
theorem d_M_round_106 : decode c_M_round 106 = .ok (.lconst 0, 1) := by decide +kernel
theorem d_M_round_107 : decode c_M_round 107 = .ok (.lcmp, 1) := by decide +kernel
theorem d_M_round_108 : decode c_M_round 108 = .ok (.ifCond .le 27, 3) := by decide +kernel
theorem d_M_round_111 : decode c_M_round 111 = .ok (.iload_n 2, 1) := by decide +kernel
theorem d_M_round_112 : decode c_M_round 112 = .ok (.lload 7, 2) := by decide +kernel
theorem d_M_round_114 : decode c_M_round 114 = .ok (.lload 9, 2) := by decide +kernel
theorem d_M_round_116 : decode c_M_round 116 = .ok (.aload_n 0, 1) := by decide +kernel
theorem d_M_round_117 : decode c_M_round 117 = .ok (.getfield 13, 3) := by decide +kernel
theorem d_M_round_120 : decode c_M_round 120 = .ok (.iload_n 1, 1) := by decide +kernel
theorem d_M_round_121 : decode c_M_round 121 = .ok (.laload, 1) := by decide +kernel
theorem d_M_round_122 : decode c_M_round 122 = .ok (.invokestatic 70, 3) := by decide +kernel
theorem d_M_round_125 : decode c_M_round 125 = .ok (.ifCond .eq 10, 3) := by decide +kernel
theorem d_M_round_128 : decode c_M_round 128 = .ok (.lload 7, 2) := by decide +kernel
theorem d_M_round_130 : decode c_M_round 130 = .ok (.lconst 1, 1) := by decide +kernel
theorem d_M_round_131 : decode c_M_round 131 = .ok (.ladd, 1) := by decide +kernel
theorem d_M_round_132 : decode c_M_round 132 = .ok (.goto 5, 3) := by decide +kernel
theorem d_M_round_135 : decode c_M_round 135 = .ok (.lload 7, 2) := by decide +kernel
theorem d_M_round_137 : decode c_M_round 137 = .ok (.lload_n 3, 1) := by decide +kernel
theorem d_M_round_138 : decode c_M_round 138 = .ok (.aload_n 0, 1) := by decide +kernel
theorem d_M_round_139 : decode c_M_round 139 = .ok (.getfield 16, 3) := by decide +kernel
theorem d_M_round_142 : decode c_M_round 142 = .ok (.iload_n 1, 1) := by decide +kernel
theorem d_M_round_143 : decode c_M_round 143 = .ok (.iaload, 1) := by decide +kernel
theorem d_M_round_144 : decode c_M_round 144 = .ok (.invokevirtual 54, 3) := by decide +kernel
theorem d_M_round_147 : decode c_M_round 147 = .ok (.ireturn, 1) := by decide +kernel
theorem d_M_order_0 : decode c_M_order 0 = .ok (.aload_n 0, 1) := by decide +kernel
theorem d_M_order_1 : decode c_M_order 1 = .ok (.iconst 0, 1) := by decide +kernel
theorem d_M_order_2 : decode c_M_order 2 = .ok (.putfield 35, 3) := by decide +kernel
theorem d_M_order_5 : decode c_M_order 5 = .ok (.aload_n 0, 1) := by decide +kernel
theorem d_M_order_6 : decode c_M_order 6 = .ok (.iload_n 1, 1) := by decide +kernel
theorem d_M_order_7 : decode c_M_order 7 = .ok (.invokevirtual 58, 3) := by decide +kernel
theorem d_M_order_10 : decode c_M_order 10 = .ok (.ifCond .eq 11, 3) := by decide +kernel
theorem d_M_order_13 : decode c_M_order 13 = .ok (.aload_n 0, 1) := by decide +kernel
theorem d_M_order_14 : decode c_M_order 14 = .ok (.iload_n 2, 1) := by decide +kernel
theorem d_M_order_15 : decode c_M_order 15 = .ok (.invokevirtual 58, 3) := by decide +kernel
theorem d_M_order_18 : decode c_M_order 18 = .ok (.ifCond .ne 6, 3) := by decide +kernel
theorem d_M_order_21 : decode c_M_order 21 = .ok (.bipush (-3), 2) := by decide +kernel
theorem d_M_order_23 : decode c_M_order 23 = .ok (.ireturn, 1) := by decide +kernel
theorem d_M_order_24 : decode c_M_order 24 = .ok (.aload_n 0, 1) := by decide +kernel
theorem d_M_order_25 : decode c_M_order 25 = .ok (.getfield 16, 3) := by decide +kernel
theorem d_M_order_28 : decode c_M_order 28 = .ok (.iload_n 1, 1) := by decide +kernel
theorem d_M_order_29 : decode c_M_order 29 = .ok (.iaload, 1) := by decide +kernel
theorem d_M_order_30 : decode c_M_order 30 = .ok (.aload_n 0, 1) := by decide +kernel
theorem d_M_order_31 : decode c_M_order 31 = .ok (.getfield 16, 3) := by decide +kernel
theorem d_M_order_34 : decode c_M_order 34 = .ok (.iload_n 2, 1) := by decide +kernel
theorem d_M_order_35 : decode c_M_order 35 = .ok (.iaload, 1) := by decide +kernel
theorem d_M_order_36 : decode c_M_order 36 = .ok (.if_icmp .eq 5, 3) := by decide +kernel
theorem d_M_order_39 : decode c_M_order 39 = .ok (.iconst 2, 1) := by decide +kernel
theorem d_M_order_40 : decode c_M_order 40 = .ok (.ireturn, 1) := by decide +kernel
theorem d_M_order_41 : decode c_M_order 41 = .ok (.aload_n 0, 1) := by decide +kernel
theorem d_M_order_42 : decode c_M_order 42 = .ok (.getfield 7, 3) := by decide +kernel
theorem d_M_order_45 : decode c_M_order 45 = .ok (.iload_n 1, 1) := by decide +kernel
theorem d_M_order_46 : decode c_M_order 46 = .ok (.laload, 1) := by decide +kernel
theorem d_M_order_47 : decode c_M_order 47 = .ok (.aload_n 0, 1) := by decide +kernel
theorem d_M_order_48 : decode c_M_order 48 = .ok (.getfield 13, 3) := by decide +kernel
theorem d_M_order_51 : decode c_M_order 51 = .ok (.iload_n 2, 1) := by decide +kernel
theorem d_M_order_52 : decode c_M_order 52 = .ok (.laload, 1) := by decide +kernel
theorem d_M_order_53 : decode c_M_order 53 = .ok (.lmul, 1) := by decide +kernel
theorem d_M_order_54 : decode c_M_order 54 = .ok (.aload_n 0, 1) := by decide +kernel
theorem d_M_order_55 : decode c_M_order 55 = .ok (.getfield 7, 3) := by decide +kernel
theorem d_M_order_58 : decode c_M_order 58 = .ok (.iload_n 2, 1) := by decide +kernel
theorem d_M_order_59 : decode c_M_order 59 = .ok (.laload, 1) := by decide +kernel
theorem d_M_order_60 : decode c_M_order 60 = .ok (.aload_n 0, 1) := by decide +kernel
theorem d_M_order_61 : decode c_M_order 61 = .ok (.getfield 13, 3) := by decide +kernel
theorem d_M_order_64 : decode c_M_order 64 = .ok (.iload_n 1, 1) := by decide +kernel
theorem d_M_order_65 : decode c_M_order 65 = .ok (.laload, 1) := by decide +kernel
theorem d_M_order_66 : decode c_M_order 66 = .ok (.lmul, 1) := by decide +kernel
theorem d_M_order_67 : decode c_M_order 67 = .ok (.lsub, 1) := by decide +kernel
theorem d_M_order_68 : decode c_M_order 68 = .ok (.lstore_n 3, 1) := by decide +kernel
theorem d_M_order_69 : decode c_M_order 69 = .ok (.lload_n 3, 1) := by decide +kernel
theorem d_M_order_70 : decode c_M_order 70 = .ok (.lconst 0, 1) := by decide +kernel
theorem d_M_order_71 : decode c_M_order 71 = .ok (.lcmp, 1) := by decide +kernel
theorem d_M_order_72 : decode c_M_order 72 = .ok (.ifCond .ge 7, 3) := by decide +kernel
theorem d_M_order_75 : decode c_M_order 75 = .ok (.iconst (-1), 1) := by decide +kernel
theorem d_M_order_76 : decode c_M_order 76 = .ok (.goto 14, 3) := by decide +kernel
theorem d_M_order_79 : decode c_M_order 79 = .ok (.lload_n 3, 1) := by decide +kernel
theorem d_M_order_80 : decode c_M_order 80 = .ok (.lconst 0, 1) := by decide +kernel
theorem d_M_order_81 : decode c_M_order 81 = .ok (.lcmp, 1) := by decide +kernel
theorem d_M_order_82 : decode c_M_order 82 = .ok (.ifCond .le 7, 3) := by decide +kernel
theorem d_M_order_85 : decode c_M_order 85 = .ok (.iconst 1, 1) := by decide +kernel
theorem d_M_order_86 : decode c_M_order 86 = .ok (.goto 4, 3) := by decide +kernel
theorem d_M_order_89 : decode c_M_order 89 = .ok (.iconst 0, 1) := by decide +kernel
theorem d_M_order_90 : decode c_M_order 90 = .ok (.ireturn, 1) := by decide +kernel
theorem d_M_isNear_0 : decode c_M_isNear 0 = .ok (.lload_n 0, 1) := by decide +kernel
theorem d_M_isNear_1 : decode c_M_isNear 1 = .ok (.ldc2_w 74, 3) := by decide +kernel
theorem d_M_isNear_4 : decode c_M_isNear 4 = .ok (.lcmp, 1) := by decide +kernel
theorem d_M_isNear_5 : decode c_M_isNear 5 = .ok (.ifCond .lt 15, 3) := by decide +kernel
theorem d_M_isNear_8 : decode c_M_isNear 8 = .ok (.lload_n 0, 1) := by decide +kernel
theorem d_M_isNear_9 : decode c_M_isNear 9 = .ok (.ldc2_w 76, 3) := by decide +kernel
theorem d_M_isNear_12 : decode c_M_isNear 12 = .ok (.lcmp, 1) := by decide +kernel
theorem d_M_isNear_13 : decode c_M_isNear 13 = .ok (.ifCond .gt 7, 3) := by decide +kernel
theorem d_M_isNear_16 : decode c_M_isNear 16 = .ok (.iconst 1, 1) := by decide +kernel
theorem d_M_isNear_17 : decode c_M_isNear 17 = .ok (.goto 4, 3) := by decide +kernel
theorem d_M_isNear_20 : decode c_M_isNear 20 = .ok (.iconst 0, 1) := by decide +kernel
theorem d_M_isNear_21 : decode c_M_isNear 21 = .ok (.ireturn, 1) := by decide +kernel
theorem d_M_row_0 : decode c_M_row 0 = .ok (.aload_n 0, 1) := by decide +kernel
theorem d_M_row_1 : decode c_M_row 1 = .ok (.iconst 0, 1) := by decide +kernel
theorem d_M_row_2 : decode c_M_row 2 = .ok (.putfield 35, 3) := by decide +kernel
theorem d_M_row_5 : decode c_M_row 5 = .ok (.iload_n 1, 1) := by decide +kernel
theorem d_M_row_6 : decode c_M_row 6 = .ok (.ifCond .lt 50, 3) := by decide +kernel
theorem d_M_row_9 : decode c_M_row 9 = .ok (.iload_n 1, 1) := by decide +kernel
theorem d_M_row_10 : decode c_M_row 10 = .ok (.iconst 4, 1) := by decide +kernel
theorem d_M_row_11 : decode c_M_row 11 = .ok (.if_icmp .ge 45, 3) := by decide +kernel
theorem d_M_row_14 : decode c_M_row 14 = .ok (.aload_n 0, 1) := by decide +kernel
theorem d_M_row_15 : decode c_M_row 15 = .ok (.getfield 20, 3) := by decide +kernel
theorem d_M_row_18 : decode c_M_row 18 = .ok (.iload_n 1, 1) := by decide +kernel
theorem d_M_row_19 : decode c_M_row 19 = .ok (.iaload, 1) := by decide +kernel
theorem d_M_row_20 : decode c_M_row 20 = .ok (.bipush 16, 2) := by decide +kernel
theorem d_M_row_22 : decode c_M_row 22 = .ok (.if_icmp .eq 34, 3) := by decide +kernel
theorem d_M_row_25 : decode c_M_row 25 = .ok (.lload 6, 2) := by decide +kernel
theorem d_M_row_27 : decode c_M_row 27 = .ok (.lconst 1, 1) := by decide +kernel
theorem d_M_row_28 : decode c_M_row 28 = .ok (.lcmp, 1) := by decide +kernel
theorem d_M_row_29 : decode c_M_row 29 = .ok (.ifCond .lt 27, 3) := by decide +kernel
theorem d_M_row_32 : decode c_M_row 32 = .ok (.lload 6, 2) := by decide +kernel
theorem d_M_row_34 : decode c_M_row 34 = .ok (.ldc2_w 78, 3) := by decide +kernel
theorem d_M_row_37 : decode c_M_row 37 = .ok (.lcmp, 1) := by decide +kernel
theorem d_M_row_38 : decode c_M_row 38 = .ok (.ifCond .gt 18, 3) := by decide +kernel
theorem d_M_row_41 : decode c_M_row 41 = .ok (.lload_n 2, 1) := by decide +kernel
theorem d_M_row_42 : decode c_M_row 42 = .ok (.invokestatic 80, 3) := by decide +kernel
theorem d_M_row_45 : decode c_M_row 45 = .ok (.ifCond .eq 11, 3) := by decide +kernel
theorem d_M_row_48 : decode c_M_row 48 = .ok (.lload 4, 2) := by decide +kernel
theorem d_M_row_50 : decode c_M_row 50 = .ok (.invokestatic 80, 3) := by decide +kernel
theorem d_M_row_53 : decode c_M_row 53 = .ok (.ifCond .ne 5, 3) := by decide +kernel
theorem d_M_row_56 : decode c_M_row 56 = .ok (.iconst 0, 1) := by decide +kernel
theorem d_M_row_57 : decode c_M_row 57 = .ok (.ireturn, 1) := by decide +kernel
theorem d_M_row_58 : decode c_M_row 58 = .ok (.bipush 16, 2) := by decide +kernel
theorem d_M_row_60 : decode c_M_row 60 = .ok (.iload_n 1, 1) := by decide +kernel
theorem d_M_row_61 : decode c_M_row 61 = .ok (.imul, 1) := by decide +kernel
theorem d_M_row_62 : decode c_M_row 62 = .ok (.aload_n 0, 1) := by decide +kernel
theorem d_M_row_63 : decode c_M_row 63 = .ok (.getfield 20, 3) := by decide +kernel
theorem d_M_row_66 : decode c_M_row 66 = .ok (.iload_n 1, 1) := by decide +kernel
theorem d_M_row_67 : decode c_M_row 67 = .ok (.iaload, 1) := by decide +kernel
theorem d_M_row_68 : decode c_M_row 68 = .ok (.iadd, 1) := by decide +kernel
theorem d_M_row_69 : decode c_M_row 69 = .ok (.istore 8, 2) := by decide +kernel
theorem d_M_row_71 : decode c_M_row 71 = .ok (.aload_n 0, 1) := by decide +kernel
theorem d_M_row_72 : decode c_M_row 72 = .ok (.getfield 20, 3) := by decide +kernel
theorem d_M_row_75 : decode c_M_row 75 = .ok (.iload_n 1, 1) := by decide +kernel
theorem d_M_row_76 : decode c_M_row 76 = .ok (.iaload, 1) := by decide +kernel
theorem d_M_row_77 : decode c_M_row 77 = .ok (.ifCond .le 31, 3) := by decide +kernel
theorem d_M_row_80 : decode c_M_row 80 = .ok (.lload 6, 2) := by decide +kernel
theorem d_M_row_82 : decode c_M_row 82 = .ok (.aload_n 0, 1) := by decide +kernel
theorem d_M_row_83 : decode c_M_row 83 = .ok (.getfield 29, 3) := by decide +kernel
theorem d_M_row_86 : decode c_M_row 86 = .ok (.iload_n 1, 1) := by decide +kernel
theorem d_M_row_87 : decode c_M_row 87 = .ok (.laload, 1) := by decide +kernel
theorem d_M_row_88 : decode c_M_row 88 = .ok (.lcmp, 1) := by decide +kernel
theorem d_M_row_89 : decode c_M_row 89 = .ok (.ifCond .ne 17, 3) := by decide +kernel
theorem d_M_row_92 : decode c_M_row 92 = .ok (.lload_n 2, 1) := by decide +kernel
theorem d_M_row_93 : decode c_M_row 93 = .ok (.aload_n 0, 1) := by decide +kernel
theorem d_M_row_94 : decode c_M_row 94 = .ok (.getfield 23, 3) := by decide +kernel
theorem d_M_row_97 : decode c_M_row 97 = .ok (.iload 8, 2) := by decide +kernel
theorem d_M_row_99 : decode c_M_row 99 = .ok (.iconst 1, 1) := by decide +kernel
theorem d_M_row_100 : decode c_M_row 100 = .ok (.isub, 1) := by decide +kernel
theorem d_M_row_101 : decode c_M_row 101 = .ok (.laload, 1) := by decide +kernel
theorem d_M_row_102 : decode c_M_row 102 = .ok (.lcmp, 1) := by decide +kernel
theorem d_M_row_103 : decode c_M_row 103 = .ok (.ifCond .gt 5, 3) := by decide +kernel
theorem d_M_row_106 : decode c_M_row 106 = .ok (.iconst 0, 1) := by decide +kernel
theorem d_M_row_107 : decode c_M_row 107 = .ok (.ireturn, 1) := by decide +kernel
theorem d_M_row_108 : decode c_M_row 108 = .ok (.aload_n 0, 1) := by decide +kernel
theorem d_M_row_109 : decode c_M_row 109 = .ok (.getfield 29, 3) := by decide +kernel
theorem d_M_row_112 : decode c_M_row 112 = .ok (.iload_n 1, 1) := by decide +kernel
theorem d_M_row_113 : decode c_M_row 113 = .ok (.lload 6, 2) := by decide +kernel
theorem d_M_row_115 : decode c_M_row 115 = .ok (.lastore, 1) := by decide +kernel
theorem d_M_row_116 : decode c_M_row 116 = .ok (.aload_n 0, 1) := by decide +kernel
theorem d_M_row_117 : decode c_M_row 117 = .ok (.getfield 23, 3) := by decide +kernel
theorem d_M_row_120 : decode c_M_row 120 = .ok (.iload 8, 2) := by decide +kernel
theorem d_M_row_122 : decode c_M_row 122 = .ok (.lload_n 2, 1) := by decide +kernel
theorem d_M_row_123 : decode c_M_row 123 = .ok (.lastore, 1) := by decide +kernel
theorem d_M_row_124 : decode c_M_row 124 = .ok (.aload_n 0, 1) := by decide +kernel
theorem d_M_row_125 : decode c_M_row 125 = .ok (.getfield 26, 3) := by decide +kernel
theorem d_M_row_128 : decode c_M_row 128 = .ok (.iload 8, 2) := by decide +kernel
theorem d_M_row_130 : decode c_M_row 130 = .ok (.lload 4, 2) := by decide +kernel
theorem d_M_row_132 : decode c_M_row 132 = .ok (.lastore, 1) := by decide +kernel
theorem d_M_row_133 : decode c_M_row 133 = .ok (.aload_n 0, 1) := by decide +kernel
theorem d_M_row_134 : decode c_M_row 134 = .ok (.getfield 20, 3) := by decide +kernel
theorem d_M_row_137 : decode c_M_row 137 = .ok (.iload_n 1, 1) := by decide +kernel
theorem d_M_row_138 : decode c_M_row 138 = .ok (.dup2, 1) := by decide +kernel
theorem d_M_row_139 : decode c_M_row 139 = .ok (.iaload, 1) := by decide +kernel
theorem d_M_row_140 : decode c_M_row 140 = .ok (.iconst 1, 1) := by decide +kernel
theorem d_M_row_141 : decode c_M_row 141 = .ok (.iadd, 1) := by decide +kernel
theorem d_M_row_142 : decode c_M_row 142 = .ok (.iastore, 1) := by decide +kernel
theorem d_M_row_143 : decode c_M_row 143 = .ok (.iconst 1, 1) := by decide +kernel
theorem d_M_row_144 : decode c_M_row 144 = .ok (.ireturn, 1) := by decide +kernel
theorem d_M_join_0 : decode c_M_join 0 = .ok (.aload_n 0, 1) := by decide +kernel
theorem d_M_join_1 : decode c_M_join 1 = .ok (.iconst 0, 1) := by decide +kernel
theorem d_M_join_2 : decode c_M_join 2 = .ok (.putfield 35, 3) := by decide +kernel
theorem d_M_join_5 : decode c_M_join 5 = .ok (.aload_n 0, 1) := by decide +kernel
theorem d_M_join_6 : decode c_M_join 6 = .ok (.iload_n 2, 1) := by decide +kernel
theorem d_M_join_7 : decode c_M_join 7 = .ok (.invokevirtual 58, 3) := by decide +kernel
theorem d_M_join_10 : decode c_M_join 10 = .ok (.ifCond .eq 12, 3) := by decide +kernel
theorem d_M_join_13 : decode c_M_join 13 = .ok (.iload_n 1, 1) := by decide +kernel
theorem d_M_join_14 : decode c_M_join 14 = .ok (.ifCond .lt 8, 3) := by decide +kernel
theorem d_M_join_17 : decode c_M_join 17 = .ok (.iload_n 1, 1) := by decide +kernel
theorem d_M_join_18 : decode c_M_join 18 = .ok (.iconst 4, 1) := by decide +kernel
theorem d_M_join_19 : decode c_M_join 19 = .ok (.if_icmp .lt 6, 3) := by decide +kernel
theorem d_M_join_22 : decode c_M_join 22 = .ok (.bipush (-3), 2) := by decide +kernel
theorem d_M_join_24 : decode c_M_join 24 = .ok (.ireturn, 1) := by decide +kernel
theorem d_M_join_25 : decode c_M_join 25 = .ok (.aload_n 0, 1) := by decide +kernel
theorem d_M_join_26 : decode c_M_join 26 = .ok (.getfield 20, 3) := by decide +kernel
theorem d_M_join_29 : decode c_M_join 29 = .ok (.iload_n 1, 1) := by decide +kernel
theorem d_M_join_30 : decode c_M_join 30 = .ok (.iaload, 1) := by decide +kernel
theorem d_M_join_31 : decode c_M_join 31 = .ok (.ifCond .ne 5, 3) := by decide +kernel
theorem d_M_join_34 : decode c_M_join 34 = .ok (.iconst (-1), 1) := by decide +kernel
theorem d_M_join_35 : decode c_M_join 35 = .ok (.ireturn, 1) := by decide +kernel
theorem d_M_join_36 : decode c_M_join 36 = .ok (.aload_n 0, 1) := by decide +kernel
theorem d_M_join_37 : decode c_M_join 37 = .ok (.getfield 7, 3) := by decide +kernel
theorem d_M_join_40 : decode c_M_join 40 = .ok (.iload_n 2, 1) := by decide +kernel
theorem d_M_join_41 : decode c_M_join 41 = .ok (.laload, 1) := by decide +kernel
theorem d_M_join_42 : decode c_M_join 42 = .ok (.aload_n 0, 1) := by decide +kernel
theorem d_M_join_43 : decode c_M_join 43 = .ok (.getfield 29, 3) := by decide +kernel
theorem d_M_join_46 : decode c_M_join 46 = .ok (.iload_n 1, 1) := by decide +kernel
theorem d_M_join_47 : decode c_M_join 47 = .ok (.laload, 1) := by decide +kernel
theorem d_M_join_48 : decode c_M_join 48 = .ok (.lmul, 1) := by decide +kernel
theorem d_M_join_49 : decode c_M_join 49 = .ok (.lstore_n 3, 1) := by decide +kernel
theorem d_M_join_50 : decode c_M_join 50 = .ok (.bipush 16, 2) := by decide +kernel
theorem d_M_join_52 : decode c_M_join 52 = .ok (.iload_n 1, 1) := by decide +kernel
theorem d_M_join_53 : decode c_M_join 53 = .ok (.imul, 1) := by decide +kernel
theorem d_M_join_54 : decode c_M_join 54 = .ok (.istore 5, 2) := by decide +kernel
theorem d_M_join_56 : decode c_M_join 56 = .ok (.iload 5, 2) := by decide +kernel
theorem d_M_join_58 : decode c_M_join 58 = .ok (.aload_n 0, 1) := by decide +kernel
theorem d_M_join_59 : decode c_M_join 59 = .ok (.getfield 20, 3) := by decide +kernel
theorem d_M_join_62 : decode c_M_join 62 = .ok (.iload_n 1, 1) := by decide +kernel
theorem d_M_join_63 : decode c_M_join 63 = .ok (.iaload, 1) := by decide +kernel
theorem d_M_join_64 : decode c_M_join 64 = .ok (.iadd, 1) := by decide +kernel
theorem d_M_join_65 : decode c_M_join 65 = .ok (.iconst 1, 1) := by decide +kernel
theorem d_M_join_66 : decode c_M_join 66 = .ok (.isub, 1) := by decide +kernel
theorem d_M_join_67 : decode c_M_join 67 = .ok (.istore 6, 2) := by decide +kernel
theorem d_M_join_69 : decode c_M_join 69 = .ok (.lload_n 3, 1) := by decide +kernel
theorem d_M_join_70 : decode c_M_join 70 = .ok (.aload_n 0, 1) := by decide +kernel
theorem d_M_join_71 : decode c_M_join 71 = .ok (.getfield 23, 3) := by decide +kernel
theorem d_M_join_74 : decode c_M_join 74 = .ok (.iload 5, 2) := by decide +kernel
theorem d_M_join_76 : decode c_M_join 76 = .ok (.laload, 1) := by decide +kernel
theorem d_M_join_77 : decode c_M_join 77 = .ok (.aload_n 0, 1) := by decide +kernel
theorem d_M_join_78 : decode c_M_join 78 = .ok (.getfield 13, 3) := by decide +kernel
theorem d_M_join_81 : decode c_M_join 81 = .ok (.iload_n 2, 1) := by decide +kernel
theorem d_M_join_82 : decode c_M_join 82 = .ok (.laload, 1) := by decide +kernel
theorem d_M_join_83 : decode c_M_join 83 = .ok (.lmul, 1) := by decide +kernel
theorem d_M_join_84 : decode c_M_join 84 = .ok (.lcmp, 1) := by decide +kernel
theorem d_M_join_85 : decode c_M_join 85 = .ok (.ifCond .gt 22, 3) := by decide +kernel
theorem d_M_join_88 : decode c_M_join 88 = .ok (.aload_n 0, 1) := by decide +kernel
theorem d_M_join_89 : decode c_M_join 89 = .ok (.aload_n 0, 1) := by decide +kernel
theorem d_M_join_90 : decode c_M_join 90 = .ok (.getfield 26, 3) := by decide +kernel
theorem d_M_join_93 : decode c_M_join 93 = .ok (.iload 5, 2) := by decide +kernel
theorem d_M_join_95 : decode c_M_join 95 = .ok (.laload, 1) := by decide +kernel
theorem d_M_join_96 : decode c_M_join 96 = .ok (.aload_n 0, 1) := by decide +kernel
theorem d_M_join_97 : decode c_M_join 97 = .ok (.getfield 29, 3) := by decide +kernel
theorem d_M_join_100 : decode c_M_join 100 = .ok (.iload_n 1, 1) := by decide +kernel
theorem d_M_join_101 : decode c_M_join 101 = .ok (.laload, 1) := by decide +kernel
theorem d_M_join_102 : decode c_M_join 102 = .ok (.iconst 0, 1) := by decide +kernel
theorem d_M_join_103 : decode c_M_join 103 = .ok (.invokevirtual 54, 3) := by decide +kernel
theorem d_M_join_106 : decode c_M_join 106 = .ok (.ireturn, 1) := by decide +kernel
theorem d_M_join_107 : decode c_M_join 107 = .ok (.iload 5, 2) := by decide +kernel
theorem d_M_join_109 : decode c_M_join 109 = .ok (.istore 7, 2) := by decide +kernel
theorem d_M_join_111 : decode c_M_join 111 = .ok (.iload 7, 2) := by decide +kernel
theorem d_M_join_113 : decode c_M_join 113 = .ok (.iload 6, 2) := by decide +kernel
theorem d_M_join_115 : decode c_M_join 115 = .ok (.if_icmp .ge 127, 3) := by decide +kernel
theorem d_M_join_118 : decode c_M_join 118 = .ok (.lload_n 3, 1) := by decide +kernel
theorem d_M_join_119 : decode c_M_join 119 = .ok (.aload_n 0, 1) := by decide +kernel
theorem d_M_join_120 : decode c_M_join 120 = .ok (.getfield 23, 3) := by decide +kernel
theorem d_M_join_123 : decode c_M_join 123 = .ok (.iload 7, 2) := by decide +kernel
theorem d_M_join_125 : decode c_M_join 125 = .ok (.iconst 1, 1) := by decide +kernel
theorem d_M_join_126 : decode c_M_join 126 = .ok (.iadd, 1) := by decide +kernel
theorem d_M_join_127 : decode c_M_join 127 = .ok (.laload, 1) := by decide +kernel
theorem d_M_join_128 : decode c_M_join 128 = .ok (.aload_n 0, 1) := by decide +kernel
theorem d_M_join_129 : decode c_M_join 129 = .ok (.getfield 13, 3) := by decide +kernel
theorem d_M_join_132 : decode c_M_join 132 = .ok (.iload_n 2, 1) := by decide +kernel
theorem d_M_join_133 : decode c_M_join 133 = .ok (.laload, 1) := by decide +kernel
theorem d_M_join_134 : decode c_M_join 134 = .ok (.lmul, 1) := by decide +kernel
theorem d_M_join_135 : decode c_M_join 135 = .ok (.lcmp, 1) := by decide +kernel
theorem d_M_join_136 : decode c_M_join 136 = .ok (.ifCond .gt 100, 3) := by decide +kernel
theorem d_M_join_139 : decode c_M_join 139 = .ok (.aload_n 0, 1) := by decide +kernel
theorem d_M_join_140 : decode c_M_join 140 = .ok (.getfield 23, 3) := by decide +kernel
theorem d_M_join_143 : decode c_M_join 143 = .ok (.iload 7, 2) := by decide +kernel
theorem d_M_join_145 : decode c_M_join 145 = .ok (.iconst 1, 1) := by decide +kernel
theorem d_M_join_146 : decode c_M_join 146 = .ok (.iadd, 1) := by decide +kernel
theorem d_M_join_147 : decode c_M_join 147 = .ok (.laload, 1) := by decide +kernel
theorem d_M_join_148 : decode c_M_join 148 = .ok (.aload_n 0, 1) := by decide +kernel
theorem d_M_join_149 : decode c_M_join 149 = .ok (.getfield 23, 3) := by decide +kernel
theorem d_M_join_152 : decode c_M_join 152 = .ok (.iload 7, 2) := by decide +kernel
theorem d_M_join_154 : decode c_M_join 154 = .ok (.laload, 1) := by decide +kernel
theorem d_M_join_155 : decode c_M_join 155 = .ok (.lsub, 1) := by decide +kernel
theorem d_M_join_156 : decode c_M_join 156 = .ok (.lstore 8, 2) := by decide +kernel
theorem d_M_join_158 : decode c_M_join 158 = .ok (.lload_n 3, 1) := by decide +kernel
theorem d_M_join_159 : decode c_M_join 159 = .ok (.aload_n 0, 1) := by decide +kernel
theorem d_M_join_160 : decode c_M_join 160 = .ok (.getfield 23, 3) := by decide +kernel
theorem d_M_join_163 : decode c_M_join 163 = .ok (.iload 7, 2) := by decide +kernel
theorem d_M_join_165 : decode c_M_join 165 = .ok (.laload, 1) := by decide +kernel
theorem d_M_join_166 : decode c_M_join 166 = .ok (.aload_n 0, 1) := by decide +kernel
theorem d_M_join_167 : decode c_M_join 167 = .ok (.getfield 13, 3) := by decide +kernel
theorem d_M_join_170 : decode c_M_join 170 = .ok (.iload_n 2, 1) := by decide +kernel
theorem d_M_join_171 : decode c_M_join 171 = .ok (.laload, 1) := by decide +kernel
theorem d_M_join_172 : decode c_M_join 172 = .ok (.lmul, 1) := by decide +kernel
theorem d_M_join_173 : decode c_M_join 173 = .ok (.lsub, 1) := by decide +kernel
theorem d_M_join_174 : decode c_M_join 174 = .ok (.aload_n 0, 1) := by decide +kernel
theorem d_M_join_175 : decode c_M_join 175 = .ok (.getfield 26, 3) := by decide +kernel
theorem d_M_join_178 : decode c_M_join 178 = .ok (.iload 7, 2) := by decide +kernel
theorem d_M_join_180 : decode c_M_join 180 = .ok (.iconst 1, 1) := by decide +kernel
theorem d_M_join_181 : decode c_M_join 181 = .ok (.iadd, 1) := by decide +kernel
theorem d_M_join_182 : decode c_M_join 182 = .ok (.laload, 1) := by decide +kernel
theorem d_M_join_183 : decode c_M_join 183 = .ok (.aload_n 0, 1) := by decide +kernel
theorem d_M_join_184 : decode c_M_join 184 = .ok (.getfield 26, 3) := by decide +kernel
theorem d_M_join_187 : decode c_M_join 187 = .ok (.iload 7, 2) := by decide +kernel
theorem d_M_join_189 : decode c_M_join 189 = .ok (.laload, 1) := by decide +kernel
theorem d_M_join_190 : decode c_M_join 190 = .ok (.lsub, 1) := by decide +kernel
theorem d_M_join_191 : decode c_M_join 191 = .ok (.lmul, 1) := by decide +kernel
theorem d_M_join_192 : decode c_M_join 192 = .ok (.lstore 10, 2) := by decide +kernel
theorem d_M_join_194 : decode c_M_join 194 = .ok (.aload_n 0, 1) := by decide +kernel
theorem d_M_join_195 : decode c_M_join 195 = .ok (.aload_n 0, 1) := by decide +kernel
theorem d_M_join_196 : decode c_M_join 196 = .ok (.getfield 26, 3) := by decide +kernel
theorem d_M_join_199 : decode c_M_join 199 = .ok (.iload 7, 2) := by decide +kernel
theorem d_M_join_201 : decode c_M_join 201 = .ok (.laload, 1) := by decide +kernel
theorem d_M_join_202 : decode c_M_join 202 = .ok (.lload 8, 2) := by decide +kernel
theorem d_M_join_204 : decode c_M_join 204 = .ok (.lmul, 1) := by decide +kernel
theorem d_M_join_205 : decode c_M_join 205 = .ok (.aload_n 0, 1) := by decide +kernel
theorem d_M_join_206 : decode c_M_join 206 = .ok (.getfield 13, 3) := by decide +kernel
theorem d_M_join_209 : decode c_M_join 209 = .ok (.iload_n 2, 1) := by decide +kernel
theorem d_M_join_210 : decode c_M_join 210 = .ok (.laload, 1) := by decide +kernel
theorem d_M_join_211 : decode c_M_join 211 = .ok (.lmul, 1) := by decide +kernel
theorem d_M_join_212 : decode c_M_join 212 = .ok (.lload 10, 2) := by decide +kernel
theorem d_M_join_214 : decode c_M_join 214 = .ok (.ladd, 1) := by decide +kernel
theorem d_M_join_215 : decode c_M_join 215 = .ok (.lload 8, 2) := by decide +kernel
theorem d_M_join_217 : decode c_M_join 217 = .ok (.aload_n 0, 1) := by decide +kernel
theorem d_M_join_218 : decode c_M_join 218 = .ok (.getfield 13, 3) := by decide +kernel
theorem d_M_join_221 : decode c_M_join 221 = .ok (.iload_n 2, 1) := by decide +kernel
theorem d_M_join_222 : decode c_M_join 222 = .ok (.laload, 1) := by decide +kernel
theorem d_M_join_223 : decode c_M_join 223 = .ok (.lmul, 1) := by decide +kernel
theorem d_M_join_224 : decode c_M_join 224 = .ok (.aload_n 0, 1) := by decide +kernel
theorem d_M_join_225 : decode c_M_join 225 = .ok (.getfield 29, 3) := by decide +kernel
theorem d_M_join_228 : decode c_M_join 228 = .ok (.iload_n 1, 1) := by decide +kernel
theorem d_M_join_229 : decode c_M_join 229 = .ok (.laload, 1) := by decide +kernel
theorem d_M_join_230 : decode c_M_join 230 = .ok (.lmul, 1) := by decide +kernel
theorem d_M_join_231 : decode c_M_join 231 = .ok (.iconst 0, 1) := by decide +kernel
theorem d_M_join_232 : decode c_M_join 232 = .ok (.invokevirtual 54, 3) := by decide +kernel
theorem d_M_join_235 : decode c_M_join 235 = .ok (.ireturn, 1) := by decide +kernel
theorem d_M_join_236 : decode c_M_join 236 = .ok (.iinc 7 1, 3) := by decide +kernel
theorem d_M_join_239 : decode c_M_join 239 = .ok (.goto (-128), 3) := by decide +kernel
theorem d_M_join_242 : decode c_M_join 242 = .ok (.aload_n 0, 1) := by decide +kernel
theorem d_M_join_243 : decode c_M_join 243 = .ok (.aload_n 0, 1) := by decide +kernel
theorem d_M_join_244 : decode c_M_join 244 = .ok (.getfield 26, 3) := by decide +kernel
theorem d_M_join_247 : decode c_M_join 247 = .ok (.iload 6, 2) := by decide +kernel
theorem d_M_join_249 : decode c_M_join 249 = .ok (.laload, 1) := by decide +kernel
theorem d_M_join_250 : decode c_M_join 250 = .ok (.aload_n 0, 1) := by decide +kernel
theorem d_M_join_251 : decode c_M_join 251 = .ok (.getfield 29, 3) := by decide +kernel
theorem d_M_join_254 : decode c_M_join 254 = .ok (.iload_n 1, 1) := by decide +kernel
theorem d_M_join_255 : decode c_M_join 255 = .ok (.laload, 1) := by decide +kernel
theorem d_M_join_256 : decode c_M_join 256 = .ok (.iconst 0, 1) := by decide +kernel
theorem d_M_join_257 : decode c_M_join 257 = .ok (.invokevirtual 54, 3) := by decide +kernel
theorem d_M_join_260 : decode c_M_join 260 = .ok (.ireturn, 1) := by decide +kernel
theorem d_M_weight_0 : decode c_M_weight 0 = .ok (.aload_n 0, 1) := by decide +kernel
theorem d_M_weight_1 : decode c_M_weight 1 = .ok (.iconst 0, 1) := by decide +kernel
theorem d_M_weight_2 : decode c_M_weight 2 = .ok (.putfield 35, 3) := by decide +kernel
theorem d_M_weight_5 : decode c_M_weight 5 = .ok (.aload_n 0, 1) := by decide +kernel
theorem d_M_weight_6 : decode c_M_weight 6 = .ok (.getfield 84, 3) := by decide +kernel
theorem d_M_weight_9 : decode c_M_weight 9 = .ok (.bipush 16, 2) := by decide +kernel
theorem d_M_weight_11 : decode c_M_weight 11 = .ok (.if_icmp .eq 17, 3) := by decide +kernel
theorem d_M_weight_14 : decode c_M_weight 14 = .ok (.lload_n 1, 1) := by decide +kernel
theorem d_M_weight_15 : decode c_M_weight 15 = .ok (.lconst 0, 1) := by decide +kernel
theorem d_M_weight_16 : decode c_M_weight 16 = .ok (.lcmp, 1) := by decide +kernel
theorem d_M_weight_17 : decode c_M_weight 17 = .ok (.ifCond .lt 11, 3) := by decide +kernel
theorem d_M_weight_20 : decode c_M_weight 20 = .ok (.lload_n 1, 1) := by decide +kernel
theorem d_M_weight_21 : decode c_M_weight 21 = .ok (.ldc2_w 87, 3) := by decide +kernel
theorem d_M_weight_24 : decode c_M_weight 24 = .ok (.lcmp, 1) := by decide +kernel
theorem d_M_weight_25 : decode c_M_weight 25 = .ok (.ifCond .le 5, 3) := by decide +kernel
theorem d_M_weight_28 : decode c_M_weight 28 = .ok (.iconst 0, 1) := by decide +kernel
theorem d_M_weight_29 : decode c_M_weight 29 = .ok (.ireturn, 1) := by decide +kernel
theorem d_M_weight_30 : decode c_M_weight 30 = .ok (.aload_n 0, 1) := by decide +kernel
theorem d_M_weight_31 : decode c_M_weight 31 = .ok (.getfield 32, 3) := by decide +kernel
theorem d_M_weight_34 : decode c_M_weight 34 = .ok (.aload_n 0, 1) := by decide +kernel
theorem d_M_weight_35 : decode c_M_weight 35 = .ok (.getfield 84, 3) := by decide +kernel
theorem d_M_weight_38 : decode c_M_weight 38 = .ok (.lload_n 1, 1) := by decide +kernel
theorem d_M_weight_39 : decode c_M_weight 39 = .ok (.lastore, 1) := by decide +kernel
theorem d_M_weight_40 : decode c_M_weight 40 = .ok (.aload_n 0, 1) := by decide +kernel
theorem d_M_weight_41 : decode c_M_weight 41 = .ok (.dup, 1) := by decide +kernel
theorem d_M_weight_42 : decode c_M_weight 42 = .ok (.getfield 84, 3) := by decide +kernel
theorem d_M_weight_45 : decode c_M_weight 45 = .ok (.iconst 1, 1) := by decide +kernel
theorem d_M_weight_46 : decode c_M_weight 46 = .ok (.iadd, 1) := by decide +kernel
theorem d_M_weight_47 : decode c_M_weight 47 = .ok (.putfield 84, 3) := by decide +kernel
theorem d_M_weight_50 : decode c_M_weight 50 = .ok (.iconst 1, 1) := by decide +kernel
theorem d_M_weight_51 : decode c_M_weight 51 = .ok (.ireturn, 1) := by decide +kernel
theorem d_M_share_0 : decode c_M_share 0 = .ok (.aload_n 0, 1) := by decide +kernel
theorem d_M_share_1 : decode c_M_share 1 = .ok (.iconst 0, 1) := by decide +kernel
theorem d_M_share_2 : decode c_M_share 2 = .ok (.putfield 35, 3) := by decide +kernel
theorem d_M_share_5 : decode c_M_share 5 = .ok (.aload_n 0, 1) := by decide +kernel
theorem d_M_share_6 : decode c_M_share 6 = .ok (.iload_n 1, 1) := by decide +kernel
theorem d_M_share_7 : decode c_M_share 7 = .ok (.invokevirtual 58, 3) := by decide +kernel
theorem d_M_share_10 : decode c_M_share 10 = .ok (.ifCond .eq 15, 3) := by decide +kernel
theorem d_M_share_13 : decode c_M_share 13 = .ok (.iload_n 2, 1) := by decide +kernel
theorem d_M_share_14 : decode c_M_share 14 = .ok (.ifCond .lt 11, 3) := by decide +kernel
theorem d_M_share_17 : decode c_M_share 17 = .ok (.iload_n 2, 1) := by decide +kernel
theorem d_M_share_18 : decode c_M_share 18 = .ok (.aload_n 0, 1) := by decide +kernel
theorem d_M_share_19 : decode c_M_share 19 = .ok (.getfield 84, 3) := by decide +kernel
theorem d_M_share_22 : decode c_M_share 22 = .ok (.if_icmp .lt 6, 3) := by decide +kernel
theorem d_M_share_25 : decode c_M_share 25 = .ok (.bipush (-3), 2) := by decide +kernel
theorem d_M_share_27 : decode c_M_share 27 = .ok (.ireturn, 1) := by decide +kernel
theorem d_M_share_28 : decode c_M_share 28 = .ok (.lconst 0, 1) := by decide +kernel
theorem d_M_share_29 : decode c_M_share 29 = .ok (.lstore_n 3, 1) := by decide +kernel
theorem d_M_share_30 : decode c_M_share 30 = .ok (.iconst 0, 1) := by decide +kernel
theorem d_M_share_31 : decode c_M_share 31 = .ok (.istore 5, 2) := by decide +kernel
theorem d_M_share_33 : decode c_M_share 33 = .ok (.iload 5, 2) := by decide +kernel
theorem d_M_share_35 : decode c_M_share 35 = .ok (.aload_n 0, 1) := by decide +kernel
theorem d_M_share_36 : decode c_M_share 36 = .ok (.getfield 84, 3) := by decide +kernel
theorem d_M_share_39 : decode c_M_share 39 = .ok (.if_icmp .ge 19, 3) := by decide +kernel
theorem d_M_share_42 : decode c_M_share 42 = .ok (.lload_n 3, 1) := by decide +kernel
theorem d_M_share_43 : decode c_M_share 43 = .ok (.aload_n 0, 1) := by decide +kernel
theorem d_M_share_44 : decode c_M_share 44 = .ok (.getfield 32, 3) := by decide +kernel
theorem d_M_share_47 : decode c_M_share 47 = .ok (.iload 5, 2) := by decide +kernel
theorem d_M_share_49 : decode c_M_share 49 = .ok (.laload, 1) := by decide +kernel
theorem d_M_share_50 : decode c_M_share 50 = .ok (.ladd, 1) := by decide +kernel
theorem d_M_share_51 : decode c_M_share 51 = .ok (.lstore_n 3, 1) := by decide +kernel
theorem d_M_share_52 : decode c_M_share 52 = .ok (.iinc 5 1, 3) := by decide +kernel
theorem d_M_share_55 : decode c_M_share 55 = .ok (.goto (-22), 3) := by decide +kernel
theorem d_M_share_58 : decode c_M_share 58 = .ok (.aload_n 0, 1) := by decide +kernel
theorem d_M_share_59 : decode c_M_share 59 = .ok (.getfield 7, 3) := by decide +kernel
theorem d_M_share_62 : decode c_M_share 62 = .ok (.iload_n 1, 1) := by decide +kernel
theorem d_M_share_63 : decode c_M_share 63 = .ok (.laload, 1) := by decide +kernel
theorem d_M_share_64 : decode c_M_share 64 = .ok (.lconst 0, 1) := by decide +kernel
theorem d_M_share_65 : decode c_M_share 65 = .ok (.lcmp, 1) := by decide +kernel
theorem d_M_share_66 : decode c_M_share 66 = .ok (.ifCond .lt 9, 3) := by decide +kernel
theorem d_M_share_69 : decode c_M_share 69 = .ok (.lload_n 3, 1) := by decide +kernel
theorem d_M_share_70 : decode c_M_share 70 = .ok (.lconst 0, 1) := by decide +kernel
theorem d_M_share_71 : decode c_M_share 71 = .ok (.lcmp, 1) := by decide +kernel
theorem d_M_share_72 : decode c_M_share 72 = .ok (.ifCond .ne 5, 3) := by decide +kernel
theorem d_M_share_75 : decode c_M_share 75 = .ok (.iconst (-1), 1) := by decide +kernel
theorem d_M_share_76 : decode c_M_share 76 = .ok (.ireturn, 1) := by decide +kernel
theorem d_M_share_77 : decode c_M_share 77 = .ok (.aload_n 0, 1) := by decide +kernel
theorem d_M_share_78 : decode c_M_share 78 = .ok (.getfield 7, 3) := by decide +kernel
theorem d_M_share_81 : decode c_M_share 81 = .ok (.iload_n 1, 1) := by decide +kernel
theorem d_M_share_82 : decode c_M_share 82 = .ok (.laload, 1) := by decide +kernel
theorem d_M_share_83 : decode c_M_share 83 = .ok (.ldc2_w 89, 3) := by decide +kernel
theorem d_M_share_86 : decode c_M_share 86 = .ok (.lmul, 1) := by decide +kernel
theorem d_M_share_87 : decode c_M_share 87 = .ok (.aload_n 0, 1) := by decide +kernel
theorem d_M_share_88 : decode c_M_share 88 = .ok (.getfield 13, 3) := by decide +kernel
theorem d_M_share_91 : decode c_M_share 91 = .ok (.iload_n 1, 1) := by decide +kernel
theorem d_M_share_92 : decode c_M_share 92 = .ok (.laload, 1) := by decide +kernel
theorem d_M_share_93 : decode c_M_share 93 = .ok (.ldiv, 1) := by decide +kernel
theorem d_M_share_94 : decode c_M_share 94 = .ok (.lstore 5, 2) := by decide +kernel
theorem d_M_share_96 : decode c_M_share 96 = .ok (.lload 5, 2) := by decide +kernel
theorem d_M_share_98 : decode c_M_share 98 = .ok (.lstore 7, 2) := by decide +kernel
theorem d_M_share_100 : decode c_M_share 100 = .ok (.lconst 0, 1) := by decide +kernel
theorem d_M_share_101 : decode c_M_share 101 = .ok (.lstore 9, 2) := by decide +kernel
theorem d_M_share_103 : decode c_M_share 103 = .ok (.lload 5, 2) := by decide +kernel
theorem d_M_share_105 : decode c_M_share 105 = .ok (.aload_n 0, 1) := by decide +kernel
theorem d_M_share_106 : decode c_M_share 106 = .ok (.getfield 32, 3) := by decide +kernel
theorem d_M_share_109 : decode c_M_share 109 = .ok (.iload_n 2, 1) := by decide +kernel
theorem d_M_share_110 : decode c_M_share 110 = .ok (.laload, 1) := by decide +kernel
theorem d_M_share_111 : decode c_M_share 111 = .ok (.lmul, 1) := by decide +kernel
theorem d_M_share_112 : decode c_M_share 112 = .ok (.lload_n 3, 1) := by decide +kernel
theorem d_M_share_113 : decode c_M_share 113 = .ok (.lrem, 1) := by decide +kernel
theorem d_M_share_114 : decode c_M_share 114 = .ok (.lstore 11, 2) := by decide +kernel
theorem d_M_share_116 : decode c_M_share 116 = .ok (.iconst 0, 1) := by decide +kernel
theorem d_M_share_117 : decode c_M_share 117 = .ok (.istore 13, 2) := by decide +kernel
theorem d_M_share_119 : decode c_M_share 119 = .ok (.iload 13, 2) := by decide +kernel
theorem d_M_share_121 : decode c_M_share 121 = .ok (.aload_n 0, 1) := by decide +kernel
theorem d_M_share_122 : decode c_M_share 122 = .ok (.getfield 84, 3) := by decide +kernel
theorem d_M_share_125 : decode c_M_share 125 = .ok (.if_icmp .ge 72, 3) := by decide +kernel
theorem d_M_share_128 : decode c_M_share 128 = .ok (.lload 7, 2) := by decide +kernel
theorem d_M_share_130 : decode c_M_share 130 = .ok (.lload 5, 2) := by decide +kernel
theorem d_M_share_132 : decode c_M_share 132 = .ok (.aload_n 0, 1) := by decide +kernel
theorem d_M_share_133 : decode c_M_share 133 = .ok (.getfield 32, 3) := by decide +kernel
theorem d_M_share_136 : decode c_M_share 136 = .ok (.iload 13, 2) := by decide +kernel
theorem d_M_share_138 : decode c_M_share 138 = .ok (.laload, 1) := by decide +kernel
theorem d_M_share_139 : decode c_M_share 139 = .ok (.lmul, 1) := by decide +kernel
theorem d_M_share_140 : decode c_M_share 140 = .ok (.lload_n 3, 1) := by decide +kernel
theorem d_M_share_141 : decode c_M_share 141 = .ok (.ldiv, 1) := by decide +kernel
theorem d_M_share_142 : decode c_M_share 142 = .ok (.lsub, 1) := by decide +kernel
theorem d_M_share_143 : decode c_M_share 143 = .ok (.lstore 7, 2) := by decide +kernel
theorem d_M_share_145 : decode c_M_share 145 = .ok (.lload 5, 2) := by decide +kernel
theorem d_M_share_147 : decode c_M_share 147 = .ok (.aload_n 0, 1) := by decide +kernel
theorem d_M_share_148 : decode c_M_share 148 = .ok (.getfield 32, 3) := by decide +kernel
theorem d_M_share_151 : decode c_M_share 151 = .ok (.iload 13, 2) := by decide +kernel
theorem d_M_share_153 : decode c_M_share 153 = .ok (.laload, 1) := by decide +kernel
theorem d_M_share_154 : decode c_M_share 154 = .ok (.lmul, 1) := by decide +kernel
theorem d_M_share_155 : decode c_M_share 155 = .ok (.lload_n 3, 1) := by decide +kernel
theorem d_M_share_156 : decode c_M_share 156 = .ok (.lrem, 1) := by decide +kernel
theorem d_M_share_157 : decode c_M_share 157 = .ok (.lstore 14, 2) := by decide +kernel
theorem d_M_share_159 : decode c_M_share 159 = .ok (.lload 9, 2) := by decide +kernel
theorem d_M_share_161 : decode c_M_share 161 = .ok (.lload 14, 2) := by decide +kernel
theorem d_M_share_163 : decode c_M_share 163 = .ok (.lload 11, 2) := by decide +kernel
theorem d_M_share_165 : decode c_M_share 165 = .ok (.lcmp, 1) := by decide +kernel
theorem d_M_share_166 : decode c_M_share 166 = .ok (.ifCond .gt 17, 3) := by decide +kernel
theorem d_M_share_169 : decode c_M_share 169 = .ok (.lload 14, 2) := by decide +kernel
theorem d_M_share_171 : decode c_M_share 171 = .ok (.lload 11, 2) := by decide +kernel
theorem d_M_share_173 : decode c_M_share 173 = .ok (.lcmp, 1) := by decide +kernel
theorem d_M_share_174 : decode c_M_share 174 = .ok (.ifCond .ne 13, 3) := by decide +kernel
theorem d_M_share_177 : decode c_M_share 177 = .ok (.iload 13, 2) := by decide +kernel
theorem d_M_share_179 : decode c_M_share 179 = .ok (.iload_n 2, 1) := by decide +kernel
theorem d_M_share_180 : decode c_M_share 180 = .ok (.if_icmp .ge 7, 3) := by decide +kernel
theorem d_M_share_183 : decode c_M_share 183 = .ok (.lconst 1, 1) := by decide +kernel
theorem d_M_share_184 : decode c_M_share 184 = .ok (.goto 4, 3) := by decide +kernel
theorem d_M_share_187 : decode c_M_share 187 = .ok (.lconst 0, 1) := by decide +kernel
theorem d_M_share_188 : decode c_M_share 188 = .ok (.ladd, 1) := by decide +kernel
theorem d_M_share_189 : decode c_M_share 189 = .ok (.lstore 9, 2) := by decide +kernel
theorem d_M_share_191 : decode c_M_share 191 = .ok (.iinc 13 1, 3) := by decide +kernel
theorem d_M_share_194 : decode c_M_share 194 = .ok (.goto (-75), 3) := by decide +kernel
theorem d_M_share_197 : decode c_M_share 197 = .ok (.lload 5, 2) := by decide +kernel
theorem d_M_share_199 : decode c_M_share 199 = .ok (.aload_n 0, 1) := by decide +kernel
theorem d_M_share_200 : decode c_M_share 200 = .ok (.getfield 32, 3) := by decide +kernel
theorem d_M_share_203 : decode c_M_share 203 = .ok (.iload_n 2, 1) := by decide +kernel
theorem d_M_share_204 : decode c_M_share 204 = .ok (.laload, 1) := by decide +kernel
theorem d_M_share_205 : decode c_M_share 205 = .ok (.lmul, 1) := by decide +kernel
theorem d_M_share_206 : decode c_M_share 206 = .ok (.lload_n 3, 1) := by decide +kernel
theorem d_M_share_207 : decode c_M_share 207 = .ok (.ldiv, 1) := by decide +kernel
theorem d_M_share_208 : decode c_M_share 208 = .ok (.lload 9, 2) := by decide +kernel
theorem d_M_share_210 : decode c_M_share 210 = .ok (.lload 7, 2) := by decide +kernel
theorem d_M_share_212 : decode c_M_share 212 = .ok (.lcmp, 1) := by decide +kernel
theorem d_M_share_213 : decode c_M_share 213 = .ok (.ifCond .ge 7, 3) := by decide +kernel
theorem d_M_share_216 : decode c_M_share 216 = .ok (.lconst 1, 1) := by decide +kernel
theorem d_M_share_217 : decode c_M_share 217 = .ok (.goto 4, 3) := by decide +kernel
theorem d_M_share_220 : decode c_M_share 220 = .ok (.lconst 0, 1) := by decide +kernel
theorem d_M_share_221 : decode c_M_share 221 = .ok (.ladd, 1) := by decide +kernel
theorem d_M_share_222 : decode c_M_share 222 = .ok (.lstore 13, 2) := by decide +kernel
theorem d_M_share_224 : decode c_M_share 224 = .ok (.iload_n 2, 1) := by decide +kernel
theorem d_M_share_225 : decode c_M_share 225 = .ok (.ifCond .ne 23, 3) := by decide +kernel
theorem d_M_share_228 : decode c_M_share 228 = .ok (.aload_n 0, 1) := by decide +kernel
theorem d_M_share_229 : decode c_M_share 229 = .ok (.getfield 7, 3) := by decide +kernel
theorem d_M_share_232 : decode c_M_share 232 = .ok (.iload_n 1, 1) := by decide +kernel
theorem d_M_share_233 : decode c_M_share 233 = .ok (.laload, 1) := by decide +kernel
theorem d_M_share_234 : decode c_M_share 234 = .ok (.ldc2_w 89, 3) := by decide +kernel
theorem d_M_share_237 : decode c_M_share 237 = .ok (.lmul, 1) := by decide +kernel
theorem d_M_share_238 : decode c_M_share 238 = .ok (.aload_n 0, 1) := by decide +kernel
theorem d_M_share_239 : decode c_M_share 239 = .ok (.getfield 13, 3) := by decide +kernel
theorem d_M_share_242 : decode c_M_share 242 = .ok (.iload_n 1, 1) := by decide +kernel
theorem d_M_share_243 : decode c_M_share 243 = .ok (.laload, 1) := by decide +kernel
theorem d_M_share_244 : decode c_M_share 244 = .ok (.lrem, 1) := by decide +kernel
theorem d_M_share_245 : decode c_M_share 245 = .ok (.goto 4, 3) := by decide +kernel
theorem d_M_share_248 : decode c_M_share 248 = .ok (.lconst 0, 1) := by decide +kernel
theorem d_M_share_249 : decode c_M_share 249 = .ok (.lstore 15, 2) := by decide +kernel
theorem d_M_share_251 : decode c_M_share 251 = .ok (.aload_n 0, 1) := by decide +kernel
theorem d_M_share_252 : decode c_M_share 252 = .ok (.lload 13, 2) := by decide +kernel
theorem d_M_share_254 : decode c_M_share 254 = .ok (.aload_n 0, 1) := by decide +kernel
theorem d_M_share_255 : decode c_M_share 255 = .ok (.getfield 13, 3) := by decide +kernel
theorem d_M_share_258 : decode c_M_share 258 = .ok (.iload_n 1, 1) := by decide +kernel
theorem d_M_share_259 : decode c_M_share 259 = .ok (.laload, 1) := by decide +kernel
theorem d_M_share_260 : decode c_M_share 260 = .ok (.lmul, 1) := by decide +kernel
theorem d_M_share_261 : decode c_M_share 261 = .ok (.lload 15, 2) := by decide +kernel
theorem d_M_share_263 : decode c_M_share 263 = .ok (.ladd, 1) := by decide +kernel
theorem d_M_share_264 : decode c_M_share 264 = .ok (.ldc2_w 89, 3) := by decide +kernel
theorem d_M_share_267 : decode c_M_share 267 = .ok (.aload_n 0, 1) := by decide +kernel
theorem d_M_share_268 : decode c_M_share 268 = .ok (.getfield 13, 3) := by decide +kernel
theorem d_M_share_271 : decode c_M_share 271 = .ok (.iload_n 1, 1) := by decide +kernel
theorem d_M_share_272 : decode c_M_share 272 = .ok (.laload, 1) := by decide +kernel
theorem d_M_share_273 : decode c_M_share 273 = .ok (.lmul, 1) := by decide +kernel
theorem d_M_share_274 : decode c_M_share 274 = .ok (.aload_n 0, 1) := by decide +kernel
theorem d_M_share_275 : decode c_M_share 275 = .ok (.getfield 16, 3) := by decide +kernel
theorem d_M_share_278 : decode c_M_share 278 = .ok (.iload_n 1, 1) := by decide +kernel
theorem d_M_share_279 : decode c_M_share 279 = .ok (.iaload, 1) := by decide +kernel
theorem d_M_share_280 : decode c_M_share 280 = .ok (.invokevirtual 54, 3) := by decide +kernel
theorem d_M_share_283 : decode c_M_share 283 = .ok (.ireturn, 1) := by decide +kernel
theorem d_M_digit_0 : decode c_M_digit 0 = .ok (.aload_n 0, 1) := by decide +kernel
theorem d_M_digit_1 : decode c_M_digit 1 = .ok (.iconst 0, 1) := by decide +kernel
theorem d_M_digit_2 : decode c_M_digit 2 = .ok (.putfield 35, 3) := by decide +kernel
theorem d_M_digit_5 : decode c_M_digit 5 = .ok (.aload_n 0, 1) := by decide +kernel
theorem d_M_digit_6 : decode c_M_digit 6 = .ok (.iload_n 1, 1) := by decide +kernel
theorem d_M_digit_7 : decode c_M_digit 7 = .ok (.invokevirtual 58, 3) := by decide +kernel
theorem d_M_digit_10 : decode c_M_digit 10 = .ok (.ifCond .ne 6, 3) := by decide +kernel
theorem d_M_digit_13 : decode c_M_digit 13 = .ok (.bipush (-3), 2) := by decide +kernel
theorem d_M_digit_15 : decode c_M_digit 15 = .ok (.ireturn, 1) := by decide +kernel
theorem d_M_digit_16 : decode c_M_digit 16 = .ok (.aload_n 0, 1) := by decide +kernel
theorem d_M_digit_17 : decode c_M_digit 17 = .ok (.getfield 7, 3) := by decide +kernel
theorem d_M_digit_20 : decode c_M_digit 20 = .ok (.iload_n 1, 1) := by decide +kernel
theorem d_M_digit_21 : decode c_M_digit 21 = .ok (.laload, 1) := by decide +kernel
theorem d_M_digit_22 : decode c_M_digit 22 = .ok (.lconst 0, 1) := by decide +kernel
theorem d_M_digit_23 : decode c_M_digit 23 = .ok (.lcmp, 1) := by decide +kernel
theorem d_M_digit_24 : decode c_M_digit 24 = .ok (.ifCond .ge 13, 3) := by decide +kernel
theorem d_M_digit_27 : decode c_M_digit 27 = .ok (.aload_n 0, 1) := by decide +kernel
theorem d_M_digit_28 : decode c_M_digit 28 = .ok (.getfield 7, 3) := by decide +kernel
theorem d_M_digit_31 : decode c_M_digit 31 = .ok (.iload_n 1, 1) := by decide +kernel
theorem d_M_digit_32 : decode c_M_digit 32 = .ok (.laload, 1) := by decide +kernel
theorem d_M_digit_33 : decode c_M_digit 33 = .ok (.lneg, 1) := by decide +kernel
theorem d_M_digit_34 : decode c_M_digit 34 = .ok (.goto 9, 3) := by decide +kernel
theorem d_M_digit_37 : decode c_M_digit 37 = .ok (.aload_n 0, 1) := by decide +kernel
theorem d_M_digit_38 : decode c_M_digit 38 = .ok (.getfield 7, 3) := by decide +kernel
theorem d_M_digit_41 : decode c_M_digit 41 = .ok (.iload_n 1, 1) := by decide +kernel
theorem d_M_digit_42 : decode c_M_digit 42 = .ok (.laload, 1) := by decide +kernel
theorem d_M_digit_43 : decode c_M_digit 43 = .ok (.lstore 4, 2) := by decide +kernel
theorem d_M_digit_45 : decode c_M_digit 45 = .ok (.iload_n 2, 1) := by decide +kernel
theorem d_M_digit_46 : decode c_M_digit 46 = .ok (.ifCond .ne 112, 3) := by decide +kernel
theorem d_M_digit_49 : decode c_M_digit 49 = .ok (.lload 4, 2) := by decide +kernel
theorem d_M_digit_51 : decode c_M_digit 51 = .ok (.aload_n 0, 1) := by decide +kernel
theorem d_M_digit_52 : decode c_M_digit 52 = .ok (.getfield 13, 3) := by decide +kernel
theorem d_M_digit_55 : decode c_M_digit 55 = .ok (.iload_n 1, 1) := by decide +kernel
theorem d_M_digit_56 : decode c_M_digit 56 = .ok (.laload, 1) := by decide +kernel
theorem d_M_digit_57 : decode c_M_digit 57 = .ok (.ldiv, 1) := by decide +kernel
theorem d_M_digit_58 : decode c_M_digit 58 = .ok (.lstore 6, 2) := by decide +kernel
theorem d_M_digit_60 : decode c_M_digit 60 = .ok (.iconst 1, 1) := by decide +kernel
theorem d_M_digit_61 : decode c_M_digit 61 = .ok (.istore 8, 2) := by decide +kernel
theorem d_M_digit_63 : decode c_M_digit 63 = .ok (.lload 6, 2) := by decide +kernel
theorem d_M_digit_65 : decode c_M_digit 65 = .ok (.lstore 9, 2) := by decide +kernel
theorem d_M_digit_67 : decode c_M_digit 67 = .ok (.lload 9, 2) := by decide +kernel
theorem d_M_digit_69 : decode c_M_digit 69 = .ok (.ldc2_w 91, 3) := by decide +kernel
theorem d_M_digit_72 : decode c_M_digit 72 = .ok (.lcmp, 1) := by decide +kernel
theorem d_M_digit_73 : decode c_M_digit 73 = .ok (.ifCond .le 17, 3) := by decide +kernel
theorem d_M_digit_76 : decode c_M_digit 76 = .ok (.iinc 8 1, 3) := by decide +kernel
theorem d_M_digit_79 : decode c_M_digit 79 = .ok (.lload 9, 2) := by decide +kernel
theorem d_M_digit_81 : decode c_M_digit 81 = .ok (.ldc2_w 93, 3) := by decide +kernel
theorem d_M_digit_84 : decode c_M_digit 84 = .ok (.ldiv, 1) := by decide +kernel
theorem d_M_digit_85 : decode c_M_digit 85 = .ok (.lstore 9, 2) := by decide +kernel
theorem d_M_digit_87 : decode c_M_digit 87 = .ok (.goto (-20), 3) := by decide +kernel
theorem d_M_digit_90 : decode c_M_digit 90 = .ok (.aload_n 0, 1) := by decide +kernel
theorem d_M_digit_91 : decode c_M_digit 91 = .ok (.iload_n 3, 1) := by decide +kernel
theorem d_M_digit_92 : decode c_M_digit 92 = .ok (.ifCond .lt 9, 3) := by decide +kernel
theorem d_M_digit_95 : decode c_M_digit 95 = .ok (.iload_n 3, 1) := by decide +kernel
theorem d_M_digit_96 : decode c_M_digit 96 = .ok (.iload 8, 2) := by decide +kernel
theorem d_M_digit_98 : decode c_M_digit 98 = .ok (.if_icmp .lt 7, 3) := by decide +kernel
theorem d_M_digit_101 : decode c_M_digit 101 = .ok (.iconst 1, 1) := by decide +kernel
theorem d_M_digit_102 : decode c_M_digit 102 = .ok (.goto 4, 3) := by decide +kernel
theorem d_M_digit_105 : decode c_M_digit 105 = .ok (.iconst 0, 1) := by decide +kernel
theorem d_M_digit_106 : decode c_M_digit 106 = .ok (.putfield 35, 3) := by decide +kernel
theorem d_M_digit_109 : decode c_M_digit 109 = .ok (.iconst 0, 1) := by decide +kernel
theorem d_M_digit_110 : decode c_M_digit 110 = .ok (.istore 9, 2) := by decide +kernel
theorem d_M_digit_112 : decode c_M_digit 112 = .ok (.iload 9, 2) := by decide +kernel
theorem d_M_digit_114 : decode c_M_digit 114 = .ok (.iload_n 3, 1) := by decide +kernel
theorem d_M_digit_115 : decode c_M_digit 115 = .ok (.if_icmp .ge 24, 3) := by decide +kernel
theorem d_M_digit_118 : decode c_M_digit 118 = .ok (.aload_n 0, 1) := by decide +kernel
theorem d_M_digit_119 : decode c_M_digit 119 = .ok (.getfield 35, 3) := by decide +kernel
theorem d_M_digit_122 : decode c_M_digit 122 = .ok (.ifCond .ne 17, 3) := by decide +kernel
theorem d_M_digit_125 : decode c_M_digit 125 = .ok (.lload 6, 2) := by decide +kernel
theorem d_M_digit_127 : decode c_M_digit 127 = .ok (.ldc2_w 93, 3) := by decide +kernel
theorem d_M_digit_130 : decode c_M_digit 130 = .ok (.ldiv, 1) := by decide +kernel
theorem d_M_digit_131 : decode c_M_digit 131 = .ok (.lstore 6, 2) := by decide +kernel
theorem d_M_digit_133 : decode c_M_digit 133 = .ok (.iinc 9 1, 3) := by decide +kernel
theorem d_M_digit_136 : decode c_M_digit 136 = .ok (.goto (-24), 3) := by decide +kernel
theorem d_M_digit_139 : decode c_M_digit 139 = .ok (.aload_n 0, 1) := by decide +kernel
theorem d_M_digit_140 : decode c_M_digit 140 = .ok (.getfield 35, 3) := by decide +kernel
theorem d_M_digit_143 : decode c_M_digit 143 = .ok (.ifCond .le 7, 3) := by decide +kernel
theorem d_M_digit_146 : decode c_M_digit 146 = .ok (.iconst 0, 1) := by decide +kernel
theorem d_M_digit_147 : decode c_M_digit 147 = .ok (.goto 10, 3) := by decide +kernel
theorem d_M_digit_150 : decode c_M_digit 150 = .ok (.lload 6, 2) := by decide +kernel
theorem d_M_digit_152 : decode c_M_digit 152 = .ok (.ldc2_w 93, 3) := by decide +kernel
theorem d_M_digit_155 : decode c_M_digit 155 = .ok (.lrem, 1) := by decide +kernel
theorem d_M_digit_156 : decode c_M_digit 156 = .ok (.l2i, 1) := by decide +kernel
theorem d_M_digit_157 : decode c_M_digit 157 = .ok (.ireturn, 1) := by decide +kernel
theorem d_M_digit_158 : decode c_M_digit 158 = .ok (.lload 4, 2) := by decide +kernel
theorem d_M_digit_160 : decode c_M_digit 160 = .ok (.aload_n 0, 1) := by decide +kernel
theorem d_M_digit_161 : decode c_M_digit 161 = .ok (.getfield 13, 3) := by decide +kernel
theorem d_M_digit_164 : decode c_M_digit 164 = .ok (.iload_n 1, 1) := by decide +kernel
theorem d_M_digit_165 : decode c_M_digit 165 = .ok (.laload, 1) := by decide +kernel
theorem d_M_digit_166 : decode c_M_digit 166 = .ok (.lrem, 1) := by decide +kernel
theorem d_M_digit_167 : decode c_M_digit 167 = .ok (.lstore 6, 2) := by decide +kernel
theorem d_M_digit_169 : decode c_M_digit 169 = .ok (.iconst 0, 1) := by decide +kernel
theorem d_M_digit_170 : decode c_M_digit 170 = .ok (.istore 8, 2) := by decide +kernel
theorem d_M_digit_172 : decode c_M_digit 172 = .ok (.iload 8, 2) := by decide +kernel
theorem d_M_digit_174 : decode c_M_digit 174 = .ok (.bipush 30, 2) := by decide +kernel
theorem d_M_digit_176 : decode c_M_digit 176 = .ok (.if_icmp .ge 52, 3) := by decide +kernel
theorem d_M_digit_179 : decode c_M_digit 179 = .ok (.lload 6, 2) := by decide +kernel
theorem d_M_digit_181 : decode c_M_digit 181 = .ok (.lconst 0, 1) := by decide +kernel
theorem d_M_digit_182 : decode c_M_digit 182 = .ok (.lcmp, 1) := by decide +kernel
theorem d_M_digit_183 : decode c_M_digit 183 = .ok (.ifCond .le 45, 3) := by decide +kernel
theorem d_M_digit_186 : decode c_M_digit 186 = .ok (.lload 6, 2) := by decide +kernel
theorem d_M_digit_188 : decode c_M_digit 188 = .ok (.ldc2_w 93, 3) := by decide +kernel
theorem d_M_digit_191 : decode c_M_digit 191 = .ok (.lmul, 1) := by decide +kernel
theorem d_M_digit_192 : decode c_M_digit 192 = .ok (.lstore 6, 2) := by decide +kernel
theorem d_M_digit_194 : decode c_M_digit 194 = .ok (.iload 8, 2) := by decide +kernel
theorem d_M_digit_196 : decode c_M_digit 196 = .ok (.iload_n 3, 1) := by decide +kernel
theorem d_M_digit_197 : decode c_M_digit 197 = .ok (.if_icmp .ne 14, 3) := by decide +kernel
theorem d_M_digit_200 : decode c_M_digit 200 = .ok (.lload 6, 2) := by decide +kernel
theorem d_M_digit_202 : decode c_M_digit 202 = .ok (.aload_n 0, 1) := by decide +kernel
theorem d_M_digit_203 : decode c_M_digit 203 = .ok (.getfield 13, 3) := by decide +kernel
theorem d_M_digit_206 : decode c_M_digit 206 = .ok (.iload_n 1, 1) := by decide +kernel
theorem d_M_digit_207 : decode c_M_digit 207 = .ok (.laload, 1) := by decide +kernel
theorem d_M_digit_208 : decode c_M_digit 208 = .ok (.ldiv, 1) := by decide +kernel
theorem d_M_digit_209 : decode c_M_digit 209 = .ok (.l2i, 1) := by decide +kernel
theorem d_M_digit_210 : decode c_M_digit 210 = .ok (.ireturn, 1) := by decide +kernel
theorem d_M_digit_211 : decode c_M_digit 211 = .ok (.lload 6, 2) := by decide +kernel
theorem d_M_digit_213 : decode c_M_digit 213 = .ok (.aload_n 0, 1) := by decide +kernel
theorem d_M_digit_214 : decode c_M_digit 214 = .ok (.getfield 13, 3) := by decide +kernel
theorem d_M_digit_217 : decode c_M_digit 217 = .ok (.iload_n 1, 1) := by decide +kernel
theorem d_M_digit_218 : decode c_M_digit 218 = .ok (.laload, 1) := by decide +kernel
theorem d_M_digit_219 : decode c_M_digit 219 = .ok (.lrem, 1) := by decide +kernel
theorem d_M_digit_220 : decode c_M_digit 220 = .ok (.lstore 6, 2) := by decide +kernel
theorem d_M_digit_222 : decode c_M_digit 222 = .ok (.iinc 8 1, 3) := by decide +kernel
theorem d_M_digit_225 : decode c_M_digit 225 = .ok (.goto (-53), 3) := by decide +kernel
theorem d_M_digit_228 : decode c_M_digit 228 = .ok (.aload_n 0, 1) := by decide +kernel
theorem d_M_digit_229 : decode c_M_digit 229 = .ok (.iconst 1, 1) := by decide +kernel
theorem d_M_digit_230 : decode c_M_digit 230 = .ok (.putfield 35, 3) := by decide +kernel
theorem d_M_digit_233 : decode c_M_digit 233 = .ok (.iconst 0, 1) := by decide +kernel
theorem d_M_digit_234 : decode c_M_digit 234 = .ok (.ireturn, 1) := by decide +kernel
theorem d_M_told_0 : decode c_M_told 0 = .ok (.aload_n 0, 1) := by decide +kernel
theorem d_M_told_1 : decode c_M_told 1 = .ok (.iconst 0, 1) := by decide +kernel
theorem d_M_told_2 : decode c_M_told 2 = .ok (.putfield 35, 3) := by decide +kernel
theorem d_M_told_5 : decode c_M_told 5 = .ok (.iload_n 2, 1) := by decide +kernel
theorem d_M_told_6 : decode c_M_told 6 = .ok (.tableswitch 137 0 5 #[38, 59, 80, 102, 108, 114], 38) := by decide +kernel
theorem d_M_told_44 : decode c_M_told 44 = .ok (.aload_n 0, 1) := by decide +kernel
theorem d_M_told_45 : decode c_M_told 45 = .ok (.iload_n 1, 1) := by decide +kernel
theorem d_M_told_46 : decode c_M_told 46 = .ok (.invokevirtual 58, 3) := by decide +kernel
theorem d_M_told_49 : decode c_M_told 49 = .ok (.ifCond .eq 12, 3) := by decide +kernel
theorem d_M_told_52 : decode c_M_told 52 = .ok (.aload_n 0, 1) := by decide +kernel
theorem d_M_told_53 : decode c_M_told 53 = .ok (.getfield 7, 3) := by decide +kernel
theorem d_M_told_56 : decode c_M_told 56 = .ok (.iload_n 1, 1) := by decide +kernel
theorem d_M_told_57 : decode c_M_told 57 = .ok (.laload, 1) := by decide +kernel
theorem d_M_told_58 : decode c_M_told 58 = .ok (.goto 6, 3) := by decide +kernel
theorem d_M_told_61 : decode c_M_told 61 = .ok (.ldc2_w 95, 3) := by decide +kernel
theorem d_M_told_64 : decode c_M_told 64 = .ok (.lreturn, 1) := by decide +kernel
theorem d_M_told_65 : decode c_M_told 65 = .ok (.aload_n 0, 1) := by decide +kernel
theorem d_M_told_66 : decode c_M_told 66 = .ok (.iload_n 1, 1) := by decide +kernel
theorem d_M_told_67 : decode c_M_told 67 = .ok (.invokevirtual 58, 3) := by decide +kernel
theorem d_M_told_70 : decode c_M_told 70 = .ok (.ifCond .eq 12, 3) := by decide +kernel
theorem d_M_told_73 : decode c_M_told 73 = .ok (.aload_n 0, 1) := by decide +kernel
theorem d_M_told_74 : decode c_M_told 74 = .ok (.getfield 13, 3) := by decide +kernel
theorem d_M_told_77 : decode c_M_told 77 = .ok (.iload_n 1, 1) := by decide +kernel
theorem d_M_told_78 : decode c_M_told 78 = .ok (.laload, 1) := by decide +kernel
theorem d_M_told_79 : decode c_M_told 79 = .ok (.goto 6, 3) := by decide +kernel
theorem d_M_told_82 : decode c_M_told 82 = .ok (.ldc2_w 95, 3) := by decide +kernel
theorem d_M_told_85 : decode c_M_told 85 = .ok (.lreturn, 1) := by decide +kernel
theorem d_M_told_86 : decode c_M_told 86 = .ok (.aload_n 0, 1) := by decide +kernel
theorem d_M_told_87 : decode c_M_told 87 = .ok (.iload_n 1, 1) := by decide +kernel
theorem d_M_told_88 : decode c_M_told 88 = .ok (.invokevirtual 58, 3) := by decide +kernel
theorem d_M_told_91 : decode c_M_told 91 = .ok (.ifCond .eq 13, 3) := by decide +kernel
theorem d_M_told_94 : decode c_M_told 94 = .ok (.aload_n 0, 1) := by decide +kernel
theorem d_M_told_95 : decode c_M_told 95 = .ok (.getfield 16, 3) := by decide +kernel
theorem d_M_told_98 : decode c_M_told 98 = .ok (.iload_n 1, 1) := by decide +kernel
theorem d_M_told_99 : decode c_M_told 99 = .ok (.iaload, 1) := by decide +kernel
theorem d_M_told_100 : decode c_M_told 100 = .ok (.i2l, 1) := by decide +kernel
theorem d_M_told_101 : decode c_M_told 101 = .ok (.goto 6, 3) := by decide +kernel
theorem d_M_told_104 : decode c_M_told 104 = .ok (.ldc2_w 95, 3) := by decide +kernel
theorem d_M_told_107 : decode c_M_told 107 = .ok (.lreturn, 1) := by decide +kernel
theorem d_M_told_108 : decode c_M_told 108 = .ok (.aload_n 0, 1) := by decide +kernel
theorem d_M_told_109 : decode c_M_told 109 = .ok (.getfield 39, 3) := by decide +kernel
theorem d_M_told_112 : decode c_M_told 112 = .ok (.i2l, 1) := by decide +kernel
theorem d_M_told_113 : decode c_M_told 113 = .ok (.lreturn, 1) := by decide +kernel
theorem d_M_told_114 : decode c_M_told 114 = .ok (.aload_n 0, 1) := by decide +kernel
theorem d_M_told_115 : decode c_M_told 115 = .ok (.getfield 84, 3) := by decide +kernel
theorem d_M_told_118 : decode c_M_told 118 = .ok (.i2l, 1) := by decide +kernel
theorem d_M_told_119 : decode c_M_told 119 = .ok (.lreturn, 1) := by decide +kernel
theorem d_M_told_120 : decode c_M_told 120 = .ok (.iload_n 1, 1) := by decide +kernel
theorem d_M_told_121 : decode c_M_told 121 = .ok (.ifCond .lt 18, 3) := by decide +kernel
theorem d_M_told_124 : decode c_M_told 124 = .ok (.iload_n 1, 1) := by decide +kernel
theorem d_M_told_125 : decode c_M_told 125 = .ok (.iconst 4, 1) := by decide +kernel
theorem d_M_told_126 : decode c_M_told 126 = .ok (.if_icmp .ge 13, 3) := by decide +kernel
theorem d_M_told_129 : decode c_M_told 129 = .ok (.aload_n 0, 1) := by decide +kernel
theorem d_M_told_130 : decode c_M_told 130 = .ok (.getfield 20, 3) := by decide +kernel
theorem d_M_told_133 : decode c_M_told 133 = .ok (.iload_n 1, 1) := by decide +kernel
theorem d_M_told_134 : decode c_M_told 134 = .ok (.iaload, 1) := by decide +kernel
theorem d_M_told_135 : decode c_M_told 135 = .ok (.i2l, 1) := by decide +kernel
theorem d_M_told_136 : decode c_M_told 136 = .ok (.goto 6, 3) := by decide +kernel
theorem d_M_told_139 : decode c_M_told 139 = .ok (.ldc2_w 95, 3) := by decide +kernel
theorem d_M_told_142 : decode c_M_told 142 = .ok (.lreturn, 1) := by decide +kernel
theorem d_M_told_143 : decode c_M_told 143 = .ok (.ldc2_w 95, 3) := by decide +kernel
theorem d_M_told_146 : decode c_M_told 146 = .ok (.lreturn, 1) := by decide +kernel
theorem d_M_clear_0 : decode c_M_clear 0 = .ok (.aload_n 0, 1) := by decide +kernel
theorem d_M_clear_1 : decode c_M_clear 1 = .ok (.iconst 0, 1) := by decide +kernel
theorem d_M_clear_2 : decode c_M_clear 2 = .ok (.putfield 35, 3) := by decide +kernel
theorem d_M_clear_5 : decode c_M_clear 5 = .ok (.aload_n 0, 1) := by decide +kernel
theorem d_M_clear_6 : decode c_M_clear 6 = .ok (.iconst 0, 1) := by decide +kernel
theorem d_M_clear_7 : decode c_M_clear 7 = .ok (.putfield 39, 3) := by decide +kernel
theorem d_M_clear_10 : decode c_M_clear 10 = .ok (.aload_n 0, 1) := by decide +kernel
theorem d_M_clear_11 : decode c_M_clear 11 = .ok (.iconst 0, 1) := by decide +kernel
theorem d_M_clear_12 : decode c_M_clear 12 = .ok (.putfield 84, 3) := by decide +kernel
theorem d_M_clear_15 : decode c_M_clear 15 = .ok (.iconst 0, 1) := by decide +kernel
theorem d_M_clear_16 : decode c_M_clear 16 = .ok (.istore_n 1, 1) := by decide +kernel
theorem d_M_clear_17 : decode c_M_clear 17 = .ok (.iload_n 1, 1) := by decide +kernel
theorem d_M_clear_18 : decode c_M_clear 18 = .ok (.iconst 4, 1) := by decide +kernel
theorem d_M_clear_19 : decode c_M_clear 19 = .ok (.if_icmp .ge 16, 3) := by decide +kernel
theorem d_M_clear_22 : decode c_M_clear 22 = .ok (.aload_n 0, 1) := by decide +kernel
theorem d_M_clear_23 : decode c_M_clear 23 = .ok (.getfield 20, 3) := by decide +kernel
theorem d_M_clear_26 : decode c_M_clear 26 = .ok (.iload_n 1, 1) := by decide +kernel
theorem d_M_clear_27 : decode c_M_clear 27 = .ok (.iconst 0, 1) := by decide +kernel
theorem d_M_clear_28 : decode c_M_clear 28 = .ok (.iastore, 1) := by decide +kernel
theorem d_M_clear_29 : decode c_M_clear 29 = .ok (.iinc 1 1, 3) := by decide +kernel
theorem d_M_clear_32 : decode c_M_clear 32 = .ok (.goto (-15), 3) := by decide +kernel
theorem d_M_clear_35 : decode c_M_clear 35 = .ok (.return_, 1) := by decide +kernel
end
section
theorem d_L_value_0 : decode c_L_value 0 = .ok (.aload 6, 2) := by decide +kernel
theorem d_L_value_2 : decode c_L_value 2 = .ok (.iconst 0, 1) := by decide +kernel
theorem d_L_value_3 : decode c_L_value 3 = .ok (.aload_n 0, 1) := by decide +kernel
theorem d_L_value_4 : decode c_L_value 4 = .ok (.lload_n 1, 1) := by decide +kernel
theorem d_L_value_5 : decode c_L_value 5 = .ok (.lload_n 3, 1) := by decide +kernel
theorem d_L_value_6 : decode c_L_value 6 = .ok (.iload 5, 2) := by decide +kernel
theorem d_L_value_8 : decode c_L_value 8 = .ok (.invokevirtual 7, 3) := by decide +kernel
theorem d_L_value_11 : decode c_L_value 11 = .ok (.i2l, 1) := by decide +kernel
theorem d_L_value_12 : decode c_L_value 12 = .ok (.lastore, 1) := by decide +kernel
theorem d_L_value_13 : decode c_L_value 13 = .ok (.goto 7, 3) := by decide +kernel
theorem d_L_value_16 : decode c_L_value 16 = .ok (.astore 7, 2) := by decide +kernel
theorem d_L_value_18 : decode c_L_value 18 = .ok (.iconst 1, 1) := by decide +kernel
theorem d_L_value_19 : decode c_L_value 19 = .ok (.ireturn, 1) := by decide +kernel
theorem d_L_value_20 : decode c_L_value 20 = .ok (.iconst 0, 1) := by decide +kernel
theorem d_L_value_21 : decode c_L_value 21 = .ok (.ireturn, 1) := by decide +kernel
theorem d_L_over_0 : decode c_L_over 0 = .ok (.aload_n 3, 1) := by decide +kernel
theorem d_L_over_1 : decode c_L_over 1 = .ok (.iconst 0, 1) := by decide +kernel
theorem d_L_over_2 : decode c_L_over 2 = .ok (.aload_n 0, 1) := by decide +kernel
theorem d_L_over_3 : decode c_L_over 3 = .ok (.iload_n 1, 1) := by decide +kernel
theorem d_L_over_4 : decode c_L_over 4 = .ok (.iload_n 2, 1) := by decide +kernel
theorem d_L_over_5 : decode c_L_over 5 = .ok (.invokevirtual 15, 3) := by decide +kernel
theorem d_L_over_8 : decode c_L_over 8 = .ok (.i2l, 1) := by decide +kernel
theorem d_L_over_9 : decode c_L_over 9 = .ok (.lastore, 1) := by decide +kernel
theorem d_L_over_10 : decode c_L_over 10 = .ok (.goto 7, 3) := by decide +kernel
theorem d_L_over_13 : decode c_L_over 13 = .ok (.astore 4, 2) := by decide +kernel
theorem d_L_over_15 : decode c_L_over 15 = .ok (.iconst 1, 1) := by decide +kernel
theorem d_L_over_16 : decode c_L_over 16 = .ok (.ireturn, 1) := by decide +kernel
theorem d_L_over_17 : decode c_L_over 17 = .ok (.iconst 0, 1) := by decide +kernel
theorem d_L_over_18 : decode c_L_over 18 = .ok (.ireturn, 1) := by decide +kernel
theorem d_L_digit_0 : decode c_L_digit 0 = .ok (.aload 4, 2) := by decide +kernel
theorem d_L_digit_2 : decode c_L_digit 2 = .ok (.iconst 0, 1) := by decide +kernel
theorem d_L_digit_3 : decode c_L_digit 3 = .ok (.aload_n 0, 1) := by decide +kernel
theorem d_L_digit_4 : decode c_L_digit 4 = .ok (.iload_n 1, 1) := by decide +kernel
theorem d_L_digit_5 : decode c_L_digit 5 = .ok (.iload_n 2, 1) := by decide +kernel
theorem d_L_digit_6 : decode c_L_digit 6 = .ok (.iload_n 3, 1) := by decide +kernel
theorem d_L_digit_7 : decode c_L_digit 7 = .ok (.invokevirtual 19, 3) := by decide +kernel
theorem d_L_digit_10 : decode c_L_digit 10 = .ok (.i2l, 1) := by decide +kernel
theorem d_L_digit_11 : decode c_L_digit 11 = .ok (.lastore, 1) := by decide +kernel
theorem d_L_digit_12 : decode c_L_digit 12 = .ok (.goto 7, 3) := by decide +kernel
theorem d_L_digit_15 : decode c_L_digit 15 = .ok (.astore 5, 2) := by decide +kernel
theorem d_L_digit_17 : decode c_L_digit 17 = .ok (.iconst 1, 1) := by decide +kernel
theorem d_L_digit_18 : decode c_L_digit 18 = .ok (.ireturn, 1) := by decide +kernel
theorem d_L_digit_19 : decode c_L_digit 19 = .ok (.iconst 0, 1) := by decide +kernel
theorem d_L_digit_20 : decode c_L_digit 20 = .ok (.ireturn, 1) := by decide +kernel
theorem d_L_law_0 : decode code 0 = .ok (.new 8, 3) := by decide +kernel
theorem d_L_law_3 : decode code 3 = .ok (.dup, 1) := by decide +kernel
theorem d_L_law_4 : decode code 4 = .ok (.invokespecial 25, 3) := by decide +kernel
theorem d_L_law_7 : decode code 7 = .ok (.astore_n 1, 1) := by decide +kernel
theorem d_L_law_8 : decode code 8 = .ok (.new 26, 3) := by decide +kernel
theorem d_L_law_11 : decode code 11 = .ok (.dup, 1) := by decide +kernel
theorem d_L_law_12 : decode code 12 = .ok (.invokespecial 28, 3) := by decide +kernel
theorem d_L_law_15 : decode code 15 = .ok (.astore_n 2, 1) := by decide +kernel
theorem d_L_law_16 : decode code 16 = .ok (.iconst 1, 1) := by decide +kernel
theorem d_L_law_17 : decode code 17 = .ok (.newarray .long, 2) := by decide +kernel
theorem d_L_law_19 : decode code 19 = .ok (.astore_n 3, 1) := by decide +kernel
theorem d_L_law_20 : decode code 20 = .ok (.iconst 0, 1) := by decide +kernel
theorem d_L_law_21 : decode code 21 = .ok (.istore 4, 2) := by decide +kernel
theorem d_L_law_23 : decode code 23 = .ok (.iload 4, 2) := by decide +kernel
theorem d_L_law_25 : decode code 25 = .ok (.aload_n 0, 1) := by decide +kernel
theorem d_L_law_26 : decode code 26 = .ok (.arraylength, 1) := by decide +kernel
theorem d_L_law_27 : decode code 27 = .ok (.bipush 8, 2) := by decide +kernel
theorem d_L_law_29 : decode code 29 = .ok (.isub, 1) := by decide +kernel
theorem d_L_law_30 : decode code 30 = .ok (.if_icmp .gt 909, 3) := by decide +kernel
theorem d_L_law_33 : decode code 33 = .ok (.aload_n 0, 1) := by decide +kernel
theorem d_L_law_34 : decode code 34 = .ok (.iload 4, 2) := by decide +kernel
theorem d_L_law_36 : decode code 36 = .ok (.iaload, 1) := by decide +kernel
theorem d_L_law_37 : decode code 37 = .ok (.bipush 15, 2) := by decide +kernel
theorem d_L_law_39 : decode code 39 = .ok (.iand, 1) := by decide +kernel
theorem d_L_law_40 : decode code 40 = .ok (.tableswitch 893 0 12 #[68, 212, 249, 286, 354, 435, 472, 633, 670, 727, 764, 844, 882], 68) := by decide +kernel
theorem d_L_law_108 : decode code 108 = .ok (.aload_n 1, 1) := by decide +kernel
theorem d_L_law_109 : decode code 109 = .ok (.aload_n 0, 1) := by decide +kernel
theorem d_L_law_110 : decode code 110 = .ok (.iload 4, 2) := by decide +kernel
theorem d_L_law_112 : decode code 112 = .ok (.iconst 1, 1) := by decide +kernel
theorem d_L_law_113 : decode code 113 = .ok (.iadd, 1) := by decide +kernel
theorem d_L_law_114 : decode code 114 = .ok (.iaload, 1) := by decide +kernel
theorem d_L_law_115 : decode code 115 = .ok (.i2l, 1) := by decide +kernel
theorem d_L_law_116 : decode code 116 = .ok (.bipush 32, 2) := by decide +kernel
theorem d_L_law_118 : decode code 118 = .ok (.lshl, 1) := by decide +kernel
theorem d_L_law_119 : decode code 119 = .ok (.aload_n 0, 1) := by decide +kernel
theorem d_L_law_120 : decode code 120 = .ok (.iload 4, 2) := by decide +kernel
theorem d_L_law_122 : decode code 122 = .ok (.iconst 2, 1) := by decide +kernel
theorem d_L_law_123 : decode code 123 = .ok (.iadd, 1) := by decide +kernel
theorem d_L_law_124 : decode code 124 = .ok (.iaload, 1) := by decide +kernel
theorem d_L_law_125 : decode code 125 = .ok (.i2l, 1) := by decide +kernel
theorem d_L_law_126 : decode code 126 = .ok (.ldc2_w 29, 3) := by decide +kernel
theorem d_L_law_129 : decode code 129 = .ok (.land, 1) := by decide +kernel
theorem d_L_law_130 : decode code 130 = .ok (.lor, 1) := by decide +kernel
theorem d_L_law_131 : decode code 131 = .ok (.aload_n 0, 1) := by decide +kernel
theorem d_L_law_132 : decode code 132 = .ok (.iload 4, 2) := by decide +kernel
theorem d_L_law_134 : decode code 134 = .ok (.iconst 3, 1) := by decide +kernel
theorem d_L_law_135 : decode code 135 = .ok (.iadd, 1) := by decide +kernel
theorem d_L_law_136 : decode code 136 = .ok (.iaload, 1) := by decide +kernel
theorem d_L_law_137 : decode code 137 = .ok (.i2l, 1) := by decide +kernel
theorem d_L_law_138 : decode code 138 = .ok (.bipush 32, 2) := by decide +kernel
theorem d_L_law_140 : decode code 140 = .ok (.lshl, 1) := by decide +kernel
theorem d_L_law_141 : decode code 141 = .ok (.aload_n 0, 1) := by decide +kernel
theorem d_L_law_142 : decode code 142 = .ok (.iload 4, 2) := by decide +kernel
theorem d_L_law_144 : decode code 144 = .ok (.iconst 4, 1) := by decide +kernel
theorem d_L_law_145 : decode code 145 = .ok (.iadd, 1) := by decide +kernel
theorem d_L_law_146 : decode code 146 = .ok (.iaload, 1) := by decide +kernel
theorem d_L_law_147 : decode code 147 = .ok (.i2l, 1) := by decide +kernel
theorem d_L_law_148 : decode code 148 = .ok (.ldc2_w 29, 3) := by decide +kernel
theorem d_L_law_151 : decode code 151 = .ok (.land, 1) := by decide +kernel
theorem d_L_law_152 : decode code 152 = .ok (.lor, 1) := by decide +kernel
theorem d_L_law_153 : decode code 153 = .ok (.aload_n 0, 1) := by decide +kernel
theorem d_L_law_154 : decode code 154 = .ok (.iload 4, 2) := by decide +kernel
theorem d_L_law_156 : decode code 156 = .ok (.iconst 5, 1) := by decide +kernel
theorem d_L_law_157 : decode code 157 = .ok (.iadd, 1) := by decide +kernel
theorem d_L_law_158 : decode code 158 = .ok (.iaload, 1) := by decide +kernel
theorem d_L_law_159 : decode code 159 = .ok (.aload_n 3, 1) := by decide +kernel
theorem d_L_law_160 : decode code 160 = .ok (.invokestatic 31, 3) := by decide +kernel
theorem d_L_law_163 : decode code 163 = .ok (.istore 5, 2) := by decide +kernel
theorem d_L_law_165 : decode code 165 = .ok (.aload_n 2, 1) := by decide +kernel
theorem d_L_law_166 : decode code 166 = .ok (.aload_n 0, 1) := by decide +kernel
theorem d_L_law_167 : decode code 167 = .ok (.iload 4, 2) := by decide +kernel
theorem d_L_law_169 : decode code 169 = .ok (.iconst 1, 1) := by decide +kernel
theorem d_L_law_170 : decode code 170 = .ok (.iadd, 1) := by decide +kernel
theorem d_L_law_171 : decode code 171 = .ok (.iaload, 1) := by decide +kernel
theorem d_L_law_172 : decode code 172 = .ok (.i2l, 1) := by decide +kernel
theorem d_L_law_173 : decode code 173 = .ok (.bipush 32, 2) := by decide +kernel
theorem d_L_law_175 : decode code 175 = .ok (.lshl, 1) := by decide +kernel
theorem d_L_law_176 : decode code 176 = .ok (.aload_n 0, 1) := by decide +kernel
theorem d_L_law_177 : decode code 177 = .ok (.iload 4, 2) := by decide +kernel
theorem d_L_law_179 : decode code 179 = .ok (.iconst 2, 1) := by decide +kernel
theorem d_L_law_180 : decode code 180 = .ok (.iadd, 1) := by decide +kernel
theorem d_L_law_181 : decode code 181 = .ok (.iaload, 1) := by decide +kernel
theorem d_L_law_182 : decode code 182 = .ok (.i2l, 1) := by decide +kernel
theorem d_L_law_183 : decode code 183 = .ok (.ldc2_w 29, 3) := by decide +kernel
theorem d_L_law_186 : decode code 186 = .ok (.land, 1) := by decide +kernel
theorem d_L_law_187 : decode code 187 = .ok (.lor, 1) := by decide +kernel
theorem d_L_law_188 : decode code 188 = .ok (.aload_n 0, 1) := by decide +kernel
theorem d_L_law_189 : decode code 189 = .ok (.iload 4, 2) := by decide +kernel
theorem d_L_law_191 : decode code 191 = .ok (.iconst 3, 1) := by decide +kernel
theorem d_L_law_192 : decode code 192 = .ok (.iadd, 1) := by decide +kernel
theorem d_L_law_193 : decode code 193 = .ok (.iaload, 1) := by decide +kernel
theorem d_L_law_194 : decode code 194 = .ok (.i2l, 1) := by decide +kernel
theorem d_L_law_195 : decode code 195 = .ok (.bipush 32, 2) := by decide +kernel
theorem d_L_law_197 : decode code 197 = .ok (.lshl, 1) := by decide +kernel
theorem d_L_law_198 : decode code 198 = .ok (.aload_n 0, 1) := by decide +kernel
theorem d_L_law_199 : decode code 199 = .ok (.iload 4, 2) := by decide +kernel
theorem d_L_law_201 : decode code 201 = .ok (.iconst 4, 1) := by decide +kernel
theorem d_L_law_202 : decode code 202 = .ok (.iadd, 1) := by decide +kernel
theorem d_L_law_203 : decode code 203 = .ok (.iaload, 1) := by decide +kernel
theorem d_L_law_204 : decode code 204 = .ok (.i2l, 1) := by decide +kernel
theorem d_L_law_205 : decode code 205 = .ok (.ldc2_w 29, 3) := by decide +kernel
theorem d_L_law_208 : decode code 208 = .ok (.land, 1) := by decide +kernel
theorem d_L_law_209 : decode code 209 = .ok (.lor, 1) := by decide +kernel
theorem d_L_law_210 : decode code 210 = .ok (.aload_n 0, 1) := by decide +kernel
theorem d_L_law_211 : decode code 211 = .ok (.iload 4, 2) := by decide +kernel
theorem d_L_law_213 : decode code 213 = .ok (.iconst 5, 1) := by decide +kernel
theorem d_L_law_214 : decode code 214 = .ok (.iadd, 1) := by decide +kernel
theorem d_L_law_215 : decode code 215 = .ok (.iaload, 1) := by decide +kernel
theorem d_L_law_216 : decode code 216 = .ok (.invokevirtual 36, 3) := by decide +kernel
theorem d_L_law_219 : decode code 219 = .ok (.istore 6, 2) := by decide +kernel
theorem d_L_law_221 : decode code 221 = .ok (.aload_n 2, 1) := by decide +kernel
theorem d_L_law_222 : decode code 222 = .ok (.invokevirtual 37, 3) := by decide +kernel
theorem d_L_law_225 : decode code 225 = .ok (.iload 5, 2) := by decide +kernel
theorem d_L_law_227 : decode code 227 = .ok (.if_icmp .eq 5, 3) := by decide +kernel
theorem d_L_law_230 : decode code 230 = .ok (.iconst 0, 1) := by decide +kernel
theorem d_L_law_231 : decode code 231 = .ok (.ireturn, 1) := by decide +kernel
theorem d_L_law_232 : decode code 232 = .ok (.iload 5, 2) := by decide +kernel
theorem d_L_law_234 : decode code 234 = .ok (.ifCond .ne 15, 3) := by decide +kernel
theorem d_L_law_237 : decode code 237 = .ok (.aload_n 3, 1) := by decide +kernel
theorem d_L_law_238 : decode code 238 = .ok (.iconst 0, 1) := by decide +kernel
theorem d_L_law_239 : decode code 239 = .ok (.laload, 1) := by decide +kernel
theorem d_L_law_240 : decode code 240 = .ok (.iload 6, 2) := by decide +kernel
theorem d_L_law_242 : decode code 242 = .ok (.i2l, 1) := by decide +kernel
theorem d_L_law_243 : decode code 243 = .ok (.lcmp, 1) := by decide +kernel
theorem d_L_law_244 : decode code 244 = .ok (.ifCond .eq 5, 3) := by decide +kernel
theorem d_L_law_247 : decode code 247 = .ok (.iconst 0, 1) := by decide +kernel
theorem d_L_law_248 : decode code 248 = .ok (.ireturn, 1) := by decide +kernel
theorem d_L_law_249 : decode code 249 = .ok (.goto 684, 3) := by decide +kernel
theorem d_L_law_252 : decode code 252 = .ok (.aload_n 1, 1) := by decide +kernel
theorem d_L_law_253 : decode code 253 = .ok (.aload_n 0, 1) := by decide +kernel
theorem d_L_law_254 : decode code 254 = .ok (.iload 4, 2) := by decide +kernel
theorem d_L_law_256 : decode code 256 = .ok (.iconst 1, 1) := by decide +kernel
theorem d_L_law_257 : decode code 257 = .ok (.iadd, 1) := by decide +kernel
theorem d_L_law_258 : decode code 258 = .ok (.iaload, 1) := by decide +kernel
theorem d_L_law_259 : decode code 259 = .ok (.aload_n 0, 1) := by decide +kernel
theorem d_L_law_260 : decode code 260 = .ok (.iload 4, 2) := by decide +kernel
theorem d_L_law_262 : decode code 262 = .ok (.iconst 2, 1) := by decide +kernel
theorem d_L_law_263 : decode code 263 = .ok (.iadd, 1) := by decide +kernel
theorem d_L_law_264 : decode code 264 = .ok (.iaload, 1) := by decide +kernel
theorem d_L_law_265 : decode code 265 = .ok (.invokevirtual 41, 3) := by decide +kernel
theorem d_L_law_268 : decode code 268 = .ok (.aload_n 2, 1) := by decide +kernel
theorem d_L_law_269 : decode code 269 = .ok (.aload_n 0, 1) := by decide +kernel
theorem d_L_law_270 : decode code 270 = .ok (.iload 4, 2) := by decide +kernel
theorem d_L_law_272 : decode code 272 = .ok (.iconst 1, 1) := by decide +kernel
theorem d_L_law_273 : decode code 273 = .ok (.iadd, 1) := by decide +kernel
theorem d_L_law_274 : decode code 274 = .ok (.iaload, 1) := by decide +kernel
theorem d_L_law_275 : decode code 275 = .ok (.aload_n 0, 1) := by decide +kernel
theorem d_L_law_276 : decode code 276 = .ok (.iload 4, 2) := by decide +kernel
theorem d_L_law_278 : decode code 278 = .ok (.iconst 2, 1) := by decide +kernel
theorem d_L_law_279 : decode code 279 = .ok (.iadd, 1) := by decide +kernel
theorem d_L_law_280 : decode code 280 = .ok (.iaload, 1) := by decide +kernel
theorem d_L_law_281 : decode code 281 = .ok (.invokevirtual 44, 3) := by decide +kernel
theorem d_L_law_284 : decode code 284 = .ok (.if_icmp .eq 649, 3) := by decide +kernel
theorem d_L_law_287 : decode code 287 = .ok (.iconst 0, 1) := by decide +kernel
theorem d_L_law_288 : decode code 288 = .ok (.ireturn, 1) := by decide +kernel
theorem d_L_law_289 : decode code 289 = .ok (.aload_n 1, 1) := by decide +kernel
theorem d_L_law_290 : decode code 290 = .ok (.aload_n 0, 1) := by decide +kernel
theorem d_L_law_291 : decode code 291 = .ok (.iload 4, 2) := by decide +kernel
theorem d_L_law_293 : decode code 293 = .ok (.iconst 1, 1) := by decide +kernel
theorem d_L_law_294 : decode code 294 = .ok (.iadd, 1) := by decide +kernel
theorem d_L_law_295 : decode code 295 = .ok (.iaload, 1) := by decide +kernel
theorem d_L_law_296 : decode code 296 = .ok (.aload_n 0, 1) := by decide +kernel
theorem d_L_law_297 : decode code 297 = .ok (.iload 4, 2) := by decide +kernel
theorem d_L_law_299 : decode code 299 = .ok (.iconst 2, 1) := by decide +kernel
theorem d_L_law_300 : decode code 300 = .ok (.iadd, 1) := by decide +kernel
theorem d_L_law_301 : decode code 301 = .ok (.iaload, 1) := by decide +kernel
theorem d_L_law_302 : decode code 302 = .ok (.invokevirtual 45, 3) := by decide +kernel
theorem d_L_law_305 : decode code 305 = .ok (.aload_n 2, 1) := by decide +kernel
theorem d_L_law_306 : decode code 306 = .ok (.aload_n 0, 1) := by decide +kernel
theorem d_L_law_307 : decode code 307 = .ok (.iload 4, 2) := by decide +kernel
theorem d_L_law_309 : decode code 309 = .ok (.iconst 1, 1) := by decide +kernel
theorem d_L_law_310 : decode code 310 = .ok (.iadd, 1) := by decide +kernel
theorem d_L_law_311 : decode code 311 = .ok (.iaload, 1) := by decide +kernel
theorem d_L_law_312 : decode code 312 = .ok (.aload_n 0, 1) := by decide +kernel
theorem d_L_law_313 : decode code 313 = .ok (.iload 4, 2) := by decide +kernel
theorem d_L_law_315 : decode code 315 = .ok (.iconst 2, 1) := by decide +kernel
theorem d_L_law_316 : decode code 316 = .ok (.iadd, 1) := by decide +kernel
theorem d_L_law_317 : decode code 317 = .ok (.iaload, 1) := by decide +kernel
theorem d_L_law_318 : decode code 318 = .ok (.invokevirtual 48, 3) := by decide +kernel
theorem d_L_law_321 : decode code 321 = .ok (.if_icmp .eq 612, 3) := by decide +kernel
theorem d_L_law_324 : decode code 324 = .ok (.iconst 0, 1) := by decide +kernel
theorem d_L_law_325 : decode code 325 = .ok (.ireturn, 1) := by decide +kernel
theorem d_L_law_326 : decode code 326 = .ok (.aload_n 1, 1) := by decide +kernel
theorem d_L_law_327 : decode code 327 = .ok (.aload_n 0, 1) := by decide +kernel
theorem d_L_law_328 : decode code 328 = .ok (.iload 4, 2) := by decide +kernel
theorem d_L_law_330 : decode code 330 = .ok (.iconst 1, 1) := by decide +kernel
theorem d_L_law_331 : decode code 331 = .ok (.iadd, 1) := by decide +kernel
theorem d_L_law_332 : decode code 332 = .ok (.iaload, 1) := by decide +kernel
theorem d_L_law_333 : decode code 333 = .ok (.aload_n 0, 1) := by decide +kernel
theorem d_L_law_334 : decode code 334 = .ok (.iload 4, 2) := by decide +kernel
theorem d_L_law_336 : decode code 336 = .ok (.iconst 2, 1) := by decide +kernel
theorem d_L_law_337 : decode code 337 = .ok (.iadd, 1) := by decide +kernel
theorem d_L_law_338 : decode code 338 = .ok (.iaload, 1) := by decide +kernel
theorem d_L_law_339 : decode code 339 = .ok (.aload_n 3, 1) := by decide +kernel
theorem d_L_law_340 : decode code 340 = .ok (.invokestatic 49, 3) := by decide +kernel
theorem d_L_law_343 : decode code 343 = .ok (.istore 5, 2) := by decide +kernel
theorem d_L_law_345 : decode code 345 = .ok (.aload_n 2, 1) := by decide +kernel
theorem d_L_law_346 : decode code 346 = .ok (.aload_n 0, 1) := by decide +kernel
theorem d_L_law_347 : decode code 347 = .ok (.iload 4, 2) := by decide +kernel
theorem d_L_law_349 : decode code 349 = .ok (.iconst 1, 1) := by decide +kernel
theorem d_L_law_350 : decode code 350 = .ok (.iadd, 1) := by decide +kernel
theorem d_L_law_351 : decode code 351 = .ok (.iaload, 1) := by decide +kernel
theorem d_L_law_352 : decode code 352 = .ok (.aload_n 0, 1) := by decide +kernel
theorem d_L_law_353 : decode code 353 = .ok (.iload 4, 2) := by decide +kernel
theorem d_L_law_355 : decode code 355 = .ok (.iconst 2, 1) := by decide +kernel
theorem d_L_law_356 : decode code 356 = .ok (.iadd, 1) := by decide +kernel
theorem d_L_law_357 : decode code 357 = .ok (.iaload, 1) := by decide +kernel
theorem d_L_law_358 : decode code 358 = .ok (.invokevirtual 52, 3) := by decide +kernel
theorem d_L_law_361 : decode code 361 = .ok (.istore 6, 2) := by decide +kernel
theorem d_L_law_363 : decode code 363 = .ok (.aload_n 2, 1) := by decide +kernel
theorem d_L_law_364 : decode code 364 = .ok (.invokevirtual 37, 3) := by decide +kernel
theorem d_L_law_367 : decode code 367 = .ok (.iload 5, 2) := by decide +kernel
theorem d_L_law_369 : decode code 369 = .ok (.if_icmp .eq 5, 3) := by decide +kernel
theorem d_L_law_372 : decode code 372 = .ok (.iconst 0, 1) := by decide +kernel
theorem d_L_law_373 : decode code 373 = .ok (.ireturn, 1) := by decide +kernel
theorem d_L_law_374 : decode code 374 = .ok (.iload 5, 2) := by decide +kernel
theorem d_L_law_376 : decode code 376 = .ok (.ifCond .ne 15, 3) := by decide +kernel
theorem d_L_law_379 : decode code 379 = .ok (.aload_n 3, 1) := by decide +kernel
theorem d_L_law_380 : decode code 380 = .ok (.iconst 0, 1) := by decide +kernel
theorem d_L_law_381 : decode code 381 = .ok (.laload, 1) := by decide +kernel
theorem d_L_law_382 : decode code 382 = .ok (.iload 6, 2) := by decide +kernel
theorem d_L_law_384 : decode code 384 = .ok (.i2l, 1) := by decide +kernel
theorem d_L_law_385 : decode code 385 = .ok (.lcmp, 1) := by decide +kernel
theorem d_L_law_386 : decode code 386 = .ok (.ifCond .eq 5, 3) := by decide +kernel
theorem d_L_law_389 : decode code 389 = .ok (.iconst 0, 1) := by decide +kernel
theorem d_L_law_390 : decode code 390 = .ok (.ireturn, 1) := by decide +kernel
theorem d_L_law_391 : decode code 391 = .ok (.goto 542, 3) := by decide +kernel
theorem d_L_law_394 : decode code 394 = .ok (.aload_n 1, 1) := by decide +kernel
theorem d_L_law_395 : decode code 395 = .ok (.aload_n 0, 1) := by decide +kernel
theorem d_L_law_396 : decode code 396 = .ok (.iload 4, 2) := by decide +kernel
theorem d_L_law_398 : decode code 398 = .ok (.iconst 1, 1) := by decide +kernel
theorem d_L_law_399 : decode code 399 = .ok (.iadd, 1) := by decide +kernel
theorem d_L_law_400 : decode code 400 = .ok (.iaload, 1) := by decide +kernel
theorem d_L_law_401 : decode code 401 = .ok (.aload_n 0, 1) := by decide +kernel
theorem d_L_law_402 : decode code 402 = .ok (.iload 4, 2) := by decide +kernel
theorem d_L_law_404 : decode code 404 = .ok (.iconst 2, 1) := by decide +kernel
theorem d_L_law_405 : decode code 405 = .ok (.iadd, 1) := by decide +kernel
theorem d_L_law_406 : decode code 406 = .ok (.iaload, 1) := by decide +kernel
theorem d_L_law_407 : decode code 407 = .ok (.aload_n 0, 1) := by decide +kernel
theorem d_L_law_408 : decode code 408 = .ok (.iload 4, 2) := by decide +kernel
theorem d_L_law_410 : decode code 410 = .ok (.iconst 3, 1) := by decide +kernel
theorem d_L_law_411 : decode code 411 = .ok (.iadd, 1) := by decide +kernel
theorem d_L_law_412 : decode code 412 = .ok (.iaload, 1) := by decide +kernel
theorem d_L_law_413 : decode code 413 = .ok (.i2l, 1) := by decide +kernel
theorem d_L_law_414 : decode code 414 = .ok (.bipush 32, 2) := by decide +kernel
theorem d_L_law_416 : decode code 416 = .ok (.lshl, 1) := by decide +kernel
theorem d_L_law_417 : decode code 417 = .ok (.aload_n 0, 1) := by decide +kernel
theorem d_L_law_418 : decode code 418 = .ok (.iload 4, 2) := by decide +kernel
theorem d_L_law_420 : decode code 420 = .ok (.iconst 4, 1) := by decide +kernel
theorem d_L_law_421 : decode code 421 = .ok (.iadd, 1) := by decide +kernel
theorem d_L_law_422 : decode code 422 = .ok (.iaload, 1) := by decide +kernel
theorem d_L_law_423 : decode code 423 = .ok (.i2l, 1) := by decide +kernel
theorem d_L_law_424 : decode code 424 = .ok (.ldc2_w 29, 3) := by decide +kernel
theorem d_L_law_427 : decode code 427 = .ok (.land, 1) := by decide +kernel
theorem d_L_law_428 : decode code 428 = .ok (.lor, 1) := by decide +kernel
theorem d_L_law_429 : decode code 429 = .ok (.invokevirtual 53, 3) := by decide +kernel
theorem d_L_law_432 : decode code 432 = .ok (.aload_n 2, 1) := by decide +kernel
theorem d_L_law_433 : decode code 433 = .ok (.aload_n 0, 1) := by decide +kernel
theorem d_L_law_434 : decode code 434 = .ok (.iload 4, 2) := by decide +kernel
theorem d_L_law_436 : decode code 436 = .ok (.iconst 1, 1) := by decide +kernel
theorem d_L_law_437 : decode code 437 = .ok (.iadd, 1) := by decide +kernel
theorem d_L_law_438 : decode code 438 = .ok (.iaload, 1) := by decide +kernel
theorem d_L_law_439 : decode code 439 = .ok (.aload_n 0, 1) := by decide +kernel
theorem d_L_law_440 : decode code 440 = .ok (.iload 4, 2) := by decide +kernel
theorem d_L_law_442 : decode code 442 = .ok (.iconst 2, 1) := by decide +kernel
theorem d_L_law_443 : decode code 443 = .ok (.iadd, 1) := by decide +kernel
theorem d_L_law_444 : decode code 444 = .ok (.iaload, 1) := by decide +kernel
theorem d_L_law_445 : decode code 445 = .ok (.aload_n 0, 1) := by decide +kernel
theorem d_L_law_446 : decode code 446 = .ok (.iload 4, 2) := by decide +kernel
theorem d_L_law_448 : decode code 448 = .ok (.iconst 3, 1) := by decide +kernel
theorem d_L_law_449 : decode code 449 = .ok (.iadd, 1) := by decide +kernel
theorem d_L_law_450 : decode code 450 = .ok (.iaload, 1) := by decide +kernel
theorem d_L_law_451 : decode code 451 = .ok (.i2l, 1) := by decide +kernel
theorem d_L_law_452 : decode code 452 = .ok (.bipush 32, 2) := by decide +kernel
theorem d_L_law_454 : decode code 454 = .ok (.lshl, 1) := by decide +kernel
theorem d_L_law_455 : decode code 455 = .ok (.aload_n 0, 1) := by decide +kernel
theorem d_L_law_456 : decode code 456 = .ok (.iload 4, 2) := by decide +kernel
theorem d_L_law_458 : decode code 458 = .ok (.iconst 4, 1) := by decide +kernel
theorem d_L_law_459 : decode code 459 = .ok (.iadd, 1) := by decide +kernel
theorem d_L_law_460 : decode code 460 = .ok (.iaload, 1) := by decide +kernel
theorem d_L_law_461 : decode code 461 = .ok (.i2l, 1) := by decide +kernel
theorem d_L_law_462 : decode code 462 = .ok (.ldc2_w 29, 3) := by decide +kernel
theorem d_L_law_465 : decode code 465 = .ok (.land, 1) := by decide +kernel
theorem d_L_law_466 : decode code 466 = .ok (.lor, 1) := by decide +kernel
theorem d_L_law_467 : decode code 467 = .ok (.invokevirtual 57, 3) := by decide +kernel
theorem d_L_law_470 : decode code 470 = .ok (.if_icmp .eq 463, 3) := by decide +kernel
theorem d_L_law_473 : decode code 473 = .ok (.iconst 0, 1) := by decide +kernel
theorem d_L_law_474 : decode code 474 = .ok (.ireturn, 1) := by decide +kernel
theorem d_L_law_475 : decode code 475 = .ok (.aload_n 1, 1) := by decide +kernel
theorem d_L_law_476 : decode code 476 = .ok (.aload_n 0, 1) := by decide +kernel
theorem d_L_law_477 : decode code 477 = .ok (.iload 4, 2) := by decide +kernel
theorem d_L_law_479 : decode code 479 = .ok (.iconst 1, 1) := by decide +kernel
theorem d_L_law_480 : decode code 480 = .ok (.iadd, 1) := by decide +kernel
theorem d_L_law_481 : decode code 481 = .ok (.iaload, 1) := by decide +kernel
theorem d_L_law_482 : decode code 482 = .ok (.aload_n 0, 1) := by decide +kernel
theorem d_L_law_483 : decode code 483 = .ok (.iload 4, 2) := by decide +kernel
theorem d_L_law_485 : decode code 485 = .ok (.iconst 2, 1) := by decide +kernel
theorem d_L_law_486 : decode code 486 = .ok (.iadd, 1) := by decide +kernel
theorem d_L_law_487 : decode code 487 = .ok (.iaload, 1) := by decide +kernel
theorem d_L_law_488 : decode code 488 = .ok (.invokevirtual 58, 3) := by decide +kernel
theorem d_L_law_491 : decode code 491 = .ok (.aload_n 2, 1) := by decide +kernel
theorem d_L_law_492 : decode code 492 = .ok (.aload_n 0, 1) := by decide +kernel
theorem d_L_law_493 : decode code 493 = .ok (.iload 4, 2) := by decide +kernel
theorem d_L_law_495 : decode code 495 = .ok (.iconst 1, 1) := by decide +kernel
theorem d_L_law_496 : decode code 496 = .ok (.iadd, 1) := by decide +kernel
theorem d_L_law_497 : decode code 497 = .ok (.iaload, 1) := by decide +kernel
theorem d_L_law_498 : decode code 498 = .ok (.aload_n 0, 1) := by decide +kernel
theorem d_L_law_499 : decode code 499 = .ok (.iload 4, 2) := by decide +kernel
theorem d_L_law_501 : decode code 501 = .ok (.iconst 2, 1) := by decide +kernel
theorem d_L_law_502 : decode code 502 = .ok (.iadd, 1) := by decide +kernel
theorem d_L_law_503 : decode code 503 = .ok (.iaload, 1) := by decide +kernel
theorem d_L_law_504 : decode code 504 = .ok (.invokevirtual 61, 3) := by decide +kernel
theorem d_L_law_507 : decode code 507 = .ok (.if_icmp .eq 426, 3) := by decide +kernel
theorem d_L_law_510 : decode code 510 = .ok (.iconst 0, 1) := by decide +kernel
theorem d_L_law_511 : decode code 511 = .ok (.ireturn, 1) := by decide +kernel
theorem d_L_law_512 : decode code 512 = .ok (.aload_n 1, 1) := by decide +kernel
theorem d_L_law_513 : decode code 513 = .ok (.aload_n 0, 1) := by decide +kernel
theorem d_L_law_514 : decode code 514 = .ok (.iload 4, 2) := by decide +kernel
theorem d_L_law_516 : decode code 516 = .ok (.iconst 1, 1) := by decide +kernel
theorem d_L_law_517 : decode code 517 = .ok (.iadd, 1) := by decide +kernel
theorem d_L_law_518 : decode code 518 = .ok (.iaload, 1) := by decide +kernel
theorem d_L_law_519 : decode code 519 = .ok (.aload_n 0, 1) := by decide +kernel
theorem d_L_law_520 : decode code 520 = .ok (.iload 4, 2) := by decide +kernel
theorem d_L_law_522 : decode code 522 = .ok (.iconst 2, 1) := by decide +kernel
theorem d_L_law_523 : decode code 523 = .ok (.iadd, 1) := by decide +kernel
theorem d_L_law_524 : decode code 524 = .ok (.iaload, 1) := by decide +kernel
theorem d_L_law_525 : decode code 525 = .ok (.i2l, 1) := by decide +kernel
theorem d_L_law_526 : decode code 526 = .ok (.bipush 32, 2) := by decide +kernel
theorem d_L_law_528 : decode code 528 = .ok (.lshl, 1) := by decide +kernel
theorem d_L_law_529 : decode code 529 = .ok (.aload_n 0, 1) := by decide +kernel
theorem d_L_law_530 : decode code 530 = .ok (.iload 4, 2) := by decide +kernel
theorem d_L_law_532 : decode code 532 = .ok (.iconst 3, 1) := by decide +kernel
theorem d_L_law_533 : decode code 533 = .ok (.iadd, 1) := by decide +kernel
theorem d_L_law_534 : decode code 534 = .ok (.iaload, 1) := by decide +kernel
theorem d_L_law_535 : decode code 535 = .ok (.i2l, 1) := by decide +kernel
theorem d_L_law_536 : decode code 536 = .ok (.ldc2_w 29, 3) := by decide +kernel
theorem d_L_law_539 : decode code 539 = .ok (.land, 1) := by decide +kernel
theorem d_L_law_540 : decode code 540 = .ok (.lor, 1) := by decide +kernel
theorem d_L_law_541 : decode code 541 = .ok (.aload_n 0, 1) := by decide +kernel
theorem d_L_law_542 : decode code 542 = .ok (.iload 4, 2) := by decide +kernel
theorem d_L_law_544 : decode code 544 = .ok (.iconst 4, 1) := by decide +kernel
theorem d_L_law_545 : decode code 545 = .ok (.iadd, 1) := by decide +kernel
theorem d_L_law_546 : decode code 546 = .ok (.iaload, 1) := by decide +kernel
theorem d_L_law_547 : decode code 547 = .ok (.i2l, 1) := by decide +kernel
theorem d_L_law_548 : decode code 548 = .ok (.bipush 32, 2) := by decide +kernel
theorem d_L_law_550 : decode code 550 = .ok (.lshl, 1) := by decide +kernel
theorem d_L_law_551 : decode code 551 = .ok (.aload_n 0, 1) := by decide +kernel
theorem d_L_law_552 : decode code 552 = .ok (.iload 4, 2) := by decide +kernel
theorem d_L_law_554 : decode code 554 = .ok (.iconst 5, 1) := by decide +kernel
theorem d_L_law_555 : decode code 555 = .ok (.iadd, 1) := by decide +kernel
theorem d_L_law_556 : decode code 556 = .ok (.iaload, 1) := by decide +kernel
theorem d_L_law_557 : decode code 557 = .ok (.i2l, 1) := by decide +kernel
theorem d_L_law_558 : decode code 558 = .ok (.ldc2_w 29, 3) := by decide +kernel
theorem d_L_law_561 : decode code 561 = .ok (.land, 1) := by decide +kernel
theorem d_L_law_562 : decode code 562 = .ok (.lor, 1) := by decide +kernel
theorem d_L_law_563 : decode code 563 = .ok (.aload_n 0, 1) := by decide +kernel
theorem d_L_law_564 : decode code 564 = .ok (.iload 4, 2) := by decide +kernel
theorem d_L_law_566 : decode code 566 = .ok (.bipush 6, 2) := by decide +kernel
theorem d_L_law_568 : decode code 568 = .ok (.iadd, 1) := by decide +kernel
theorem d_L_law_569 : decode code 569 = .ok (.iaload, 1) := by decide +kernel
theorem d_L_law_570 : decode code 570 = .ok (.i2l, 1) := by decide +kernel
theorem d_L_law_571 : decode code 571 = .ok (.bipush 32, 2) := by decide +kernel
theorem d_L_law_573 : decode code 573 = .ok (.lshl, 1) := by decide +kernel
theorem d_L_law_574 : decode code 574 = .ok (.aload_n 0, 1) := by decide +kernel
theorem d_L_law_575 : decode code 575 = .ok (.iload 4, 2) := by decide +kernel
theorem d_L_law_577 : decode code 577 = .ok (.bipush 7, 2) := by decide +kernel
theorem d_L_law_579 : decode code 579 = .ok (.iadd, 1) := by decide +kernel
theorem d_L_law_580 : decode code 580 = .ok (.iaload, 1) := by decide +kernel
theorem d_L_law_581 : decode code 581 = .ok (.i2l, 1) := by decide +kernel
theorem d_L_law_582 : decode code 582 = .ok (.ldc2_w 29, 3) := by decide +kernel
theorem d_L_law_585 : decode code 585 = .ok (.land, 1) := by decide +kernel
theorem d_L_law_586 : decode code 586 = .ok (.lor, 1) := by decide +kernel
theorem d_L_law_587 : decode code 587 = .ok (.invokevirtual 62, 3) := by decide +kernel
theorem d_L_law_590 : decode code 590 = .ok (.aload_n 2, 1) := by decide +kernel
theorem d_L_law_591 : decode code 591 = .ok (.aload_n 0, 1) := by decide +kernel
theorem d_L_law_592 : decode code 592 = .ok (.iload 4, 2) := by decide +kernel
theorem d_L_law_594 : decode code 594 = .ok (.iconst 1, 1) := by decide +kernel
theorem d_L_law_595 : decode code 595 = .ok (.iadd, 1) := by decide +kernel
theorem d_L_law_596 : decode code 596 = .ok (.iaload, 1) := by decide +kernel
theorem d_L_law_597 : decode code 597 = .ok (.aload_n 0, 1) := by decide +kernel
theorem d_L_law_598 : decode code 598 = .ok (.iload 4, 2) := by decide +kernel
theorem d_L_law_600 : decode code 600 = .ok (.iconst 2, 1) := by decide +kernel
theorem d_L_law_601 : decode code 601 = .ok (.iadd, 1) := by decide +kernel
theorem d_L_law_602 : decode code 602 = .ok (.iaload, 1) := by decide +kernel
theorem d_L_law_603 : decode code 603 = .ok (.i2l, 1) := by decide +kernel
theorem d_L_law_604 : decode code 604 = .ok (.bipush 32, 2) := by decide +kernel
theorem d_L_law_606 : decode code 606 = .ok (.lshl, 1) := by decide +kernel
theorem d_L_law_607 : decode code 607 = .ok (.aload_n 0, 1) := by decide +kernel
theorem d_L_law_608 : decode code 608 = .ok (.iload 4, 2) := by decide +kernel
theorem d_L_law_610 : decode code 610 = .ok (.iconst 3, 1) := by decide +kernel
theorem d_L_law_611 : decode code 611 = .ok (.iadd, 1) := by decide +kernel
theorem d_L_law_612 : decode code 612 = .ok (.iaload, 1) := by decide +kernel
theorem d_L_law_613 : decode code 613 = .ok (.i2l, 1) := by decide +kernel
theorem d_L_law_614 : decode code 614 = .ok (.ldc2_w 29, 3) := by decide +kernel
theorem d_L_law_617 : decode code 617 = .ok (.land, 1) := by decide +kernel
theorem d_L_law_618 : decode code 618 = .ok (.lor, 1) := by decide +kernel
theorem d_L_law_619 : decode code 619 = .ok (.aload_n 0, 1) := by decide +kernel
theorem d_L_law_620 : decode code 620 = .ok (.iload 4, 2) := by decide +kernel
theorem d_L_law_622 : decode code 622 = .ok (.iconst 4, 1) := by decide +kernel
theorem d_L_law_623 : decode code 623 = .ok (.iadd, 1) := by decide +kernel
theorem d_L_law_624 : decode code 624 = .ok (.iaload, 1) := by decide +kernel
theorem d_L_law_625 : decode code 625 = .ok (.i2l, 1) := by decide +kernel
theorem d_L_law_626 : decode code 626 = .ok (.bipush 32, 2) := by decide +kernel
theorem d_L_law_628 : decode code 628 = .ok (.lshl, 1) := by decide +kernel
theorem d_L_law_629 : decode code 629 = .ok (.aload_n 0, 1) := by decide +kernel
theorem d_L_law_630 : decode code 630 = .ok (.iload 4, 2) := by decide +kernel
theorem d_L_law_632 : decode code 632 = .ok (.iconst 5, 1) := by decide +kernel
theorem d_L_law_633 : decode code 633 = .ok (.iadd, 1) := by decide +kernel
theorem d_L_law_634 : decode code 634 = .ok (.iaload, 1) := by decide +kernel
theorem d_L_law_635 : decode code 635 = .ok (.i2l, 1) := by decide +kernel
theorem d_L_law_636 : decode code 636 = .ok (.ldc2_w 29, 3) := by decide +kernel
theorem d_L_law_639 : decode code 639 = .ok (.land, 1) := by decide +kernel
theorem d_L_law_640 : decode code 640 = .ok (.lor, 1) := by decide +kernel
theorem d_L_law_641 : decode code 641 = .ok (.aload_n 0, 1) := by decide +kernel
theorem d_L_law_642 : decode code 642 = .ok (.iload 4, 2) := by decide +kernel
theorem d_L_law_644 : decode code 644 = .ok (.bipush 6, 2) := by decide +kernel
theorem d_L_law_646 : decode code 646 = .ok (.iadd, 1) := by decide +kernel
theorem d_L_law_647 : decode code 647 = .ok (.iaload, 1) := by decide +kernel
theorem d_L_law_648 : decode code 648 = .ok (.i2l, 1) := by decide +kernel
theorem d_L_law_649 : decode code 649 = .ok (.bipush 32, 2) := by decide +kernel
theorem d_L_law_651 : decode code 651 = .ok (.lshl, 1) := by decide +kernel
theorem d_L_law_652 : decode code 652 = .ok (.aload_n 0, 1) := by decide +kernel
theorem d_L_law_653 : decode code 653 = .ok (.iload 4, 2) := by decide +kernel
theorem d_L_law_655 : decode code 655 = .ok (.bipush 7, 2) := by decide +kernel
theorem d_L_law_657 : decode code 657 = .ok (.iadd, 1) := by decide +kernel
theorem d_L_law_658 : decode code 658 = .ok (.iaload, 1) := by decide +kernel
theorem d_L_law_659 : decode code 659 = .ok (.i2l, 1) := by decide +kernel
theorem d_L_law_660 : decode code 660 = .ok (.ldc2_w 29, 3) := by decide +kernel
theorem d_L_law_663 : decode code 663 = .ok (.land, 1) := by decide +kernel
theorem d_L_law_664 : decode code 664 = .ok (.lor, 1) := by decide +kernel
theorem d_L_law_665 : decode code 665 = .ok (.invokevirtual 66, 3) := by decide +kernel
theorem d_L_law_668 : decode code 668 = .ok (.if_icmp .eq 265, 3) := by decide +kernel
theorem d_L_law_671 : decode code 671 = .ok (.iconst 0, 1) := by decide +kernel
theorem d_L_law_672 : decode code 672 = .ok (.ireturn, 1) := by decide +kernel
theorem d_L_law_673 : decode code 673 = .ok (.aload_n 1, 1) := by decide +kernel
theorem d_L_law_674 : decode code 674 = .ok (.aload_n 0, 1) := by decide +kernel
theorem d_L_law_675 : decode code 675 = .ok (.iload 4, 2) := by decide +kernel
theorem d_L_law_677 : decode code 677 = .ok (.iconst 1, 1) := by decide +kernel
theorem d_L_law_678 : decode code 678 = .ok (.iadd, 1) := by decide +kernel
theorem d_L_law_679 : decode code 679 = .ok (.iaload, 1) := by decide +kernel
theorem d_L_law_680 : decode code 680 = .ok (.aload_n 0, 1) := by decide +kernel
theorem d_L_law_681 : decode code 681 = .ok (.iload 4, 2) := by decide +kernel
theorem d_L_law_683 : decode code 683 = .ok (.iconst 2, 1) := by decide +kernel
theorem d_L_law_684 : decode code 684 = .ok (.iadd, 1) := by decide +kernel
theorem d_L_law_685 : decode code 685 = .ok (.iaload, 1) := by decide +kernel
theorem d_L_law_686 : decode code 686 = .ok (.invokevirtual 67, 3) := by decide +kernel
theorem d_L_law_689 : decode code 689 = .ok (.aload_n 2, 1) := by decide +kernel
theorem d_L_law_690 : decode code 690 = .ok (.aload_n 0, 1) := by decide +kernel
theorem d_L_law_691 : decode code 691 = .ok (.iload 4, 2) := by decide +kernel
theorem d_L_law_693 : decode code 693 = .ok (.iconst 1, 1) := by decide +kernel
theorem d_L_law_694 : decode code 694 = .ok (.iadd, 1) := by decide +kernel
theorem d_L_law_695 : decode code 695 = .ok (.iaload, 1) := by decide +kernel
theorem d_L_law_696 : decode code 696 = .ok (.aload_n 0, 1) := by decide +kernel
theorem d_L_law_697 : decode code 697 = .ok (.iload 4, 2) := by decide +kernel
theorem d_L_law_699 : decode code 699 = .ok (.iconst 2, 1) := by decide +kernel
theorem d_L_law_700 : decode code 700 = .ok (.iadd, 1) := by decide +kernel
theorem d_L_law_701 : decode code 701 = .ok (.iaload, 1) := by decide +kernel
theorem d_L_law_702 : decode code 702 = .ok (.invokevirtual 70, 3) := by decide +kernel
theorem d_L_law_705 : decode code 705 = .ok (.if_icmp .eq 228, 3) := by decide +kernel
theorem d_L_law_708 : decode code 708 = .ok (.iconst 0, 1) := by decide +kernel
theorem d_L_law_709 : decode code 709 = .ok (.ireturn, 1) := by decide +kernel
theorem d_L_law_710 : decode code 710 = .ok (.aload_n 1, 1) := by decide +kernel
theorem d_L_law_711 : decode code 711 = .ok (.aload_n 0, 1) := by decide +kernel
theorem d_L_law_712 : decode code 712 = .ok (.iload 4, 2) := by decide +kernel
theorem d_L_law_714 : decode code 714 = .ok (.iconst 1, 1) := by decide +kernel
theorem d_L_law_715 : decode code 715 = .ok (.iadd, 1) := by decide +kernel
theorem d_L_law_716 : decode code 716 = .ok (.iaload, 1) := by decide +kernel
theorem d_L_law_717 : decode code 717 = .ok (.i2l, 1) := by decide +kernel
theorem d_L_law_718 : decode code 718 = .ok (.bipush 32, 2) := by decide +kernel
theorem d_L_law_720 : decode code 720 = .ok (.lshl, 1) := by decide +kernel
theorem d_L_law_721 : decode code 721 = .ok (.aload_n 0, 1) := by decide +kernel
theorem d_L_law_722 : decode code 722 = .ok (.iload 4, 2) := by decide +kernel
theorem d_L_law_724 : decode code 724 = .ok (.iconst 2, 1) := by decide +kernel
theorem d_L_law_725 : decode code 725 = .ok (.iadd, 1) := by decide +kernel
theorem d_L_law_726 : decode code 726 = .ok (.iaload, 1) := by decide +kernel
theorem d_L_law_727 : decode code 727 = .ok (.i2l, 1) := by decide +kernel
theorem d_L_law_728 : decode code 728 = .ok (.ldc2_w 29, 3) := by decide +kernel
theorem d_L_law_731 : decode code 731 = .ok (.land, 1) := by decide +kernel
theorem d_L_law_732 : decode code 732 = .ok (.lor, 1) := by decide +kernel
theorem d_L_law_733 : decode code 733 = .ok (.invokevirtual 71, 3) := by decide +kernel
theorem d_L_law_736 : decode code 736 = .ok (.aload_n 2, 1) := by decide +kernel
theorem d_L_law_737 : decode code 737 = .ok (.aload_n 0, 1) := by decide +kernel
theorem d_L_law_738 : decode code 738 = .ok (.iload 4, 2) := by decide +kernel
theorem d_L_law_740 : decode code 740 = .ok (.iconst 1, 1) := by decide +kernel
theorem d_L_law_741 : decode code 741 = .ok (.iadd, 1) := by decide +kernel
theorem d_L_law_742 : decode code 742 = .ok (.iaload, 1) := by decide +kernel
theorem d_L_law_743 : decode code 743 = .ok (.i2l, 1) := by decide +kernel
theorem d_L_law_744 : decode code 744 = .ok (.bipush 32, 2) := by decide +kernel
theorem d_L_law_746 : decode code 746 = .ok (.lshl, 1) := by decide +kernel
theorem d_L_law_747 : decode code 747 = .ok (.aload_n 0, 1) := by decide +kernel
theorem d_L_law_748 : decode code 748 = .ok (.iload 4, 2) := by decide +kernel
theorem d_L_law_750 : decode code 750 = .ok (.iconst 2, 1) := by decide +kernel
theorem d_L_law_751 : decode code 751 = .ok (.iadd, 1) := by decide +kernel
theorem d_L_law_752 : decode code 752 = .ok (.iaload, 1) := by decide +kernel
theorem d_L_law_753 : decode code 753 = .ok (.i2l, 1) := by decide +kernel
theorem d_L_law_754 : decode code 754 = .ok (.ldc2_w 29, 3) := by decide +kernel
theorem d_L_law_757 : decode code 757 = .ok (.land, 1) := by decide +kernel
theorem d_L_law_758 : decode code 758 = .ok (.lor, 1) := by decide +kernel
theorem d_L_law_759 : decode code 759 = .ok (.invokevirtual 75, 3) := by decide +kernel
theorem d_L_law_762 : decode code 762 = .ok (.if_icmp .eq 171, 3) := by decide +kernel
theorem d_L_law_765 : decode code 765 = .ok (.iconst 0, 1) := by decide +kernel
theorem d_L_law_766 : decode code 766 = .ok (.ireturn, 1) := by decide +kernel
theorem d_L_law_767 : decode code 767 = .ok (.aload_n 1, 1) := by decide +kernel
theorem d_L_law_768 : decode code 768 = .ok (.aload_n 0, 1) := by decide +kernel
theorem d_L_law_769 : decode code 769 = .ok (.iload 4, 2) := by decide +kernel
theorem d_L_law_771 : decode code 771 = .ok (.iconst 1, 1) := by decide +kernel
theorem d_L_law_772 : decode code 772 = .ok (.iadd, 1) := by decide +kernel
theorem d_L_law_773 : decode code 773 = .ok (.iaload, 1) := by decide +kernel
theorem d_L_law_774 : decode code 774 = .ok (.aload_n 0, 1) := by decide +kernel
theorem d_L_law_775 : decode code 775 = .ok (.iload 4, 2) := by decide +kernel
theorem d_L_law_777 : decode code 777 = .ok (.iconst 2, 1) := by decide +kernel
theorem d_L_law_778 : decode code 778 = .ok (.iadd, 1) := by decide +kernel
theorem d_L_law_779 : decode code 779 = .ok (.iaload, 1) := by decide +kernel
theorem d_L_law_780 : decode code 780 = .ok (.invokevirtual 76, 3) := by decide +kernel
theorem d_L_law_783 : decode code 783 = .ok (.aload_n 2, 1) := by decide +kernel
theorem d_L_law_784 : decode code 784 = .ok (.aload_n 0, 1) := by decide +kernel
theorem d_L_law_785 : decode code 785 = .ok (.iload 4, 2) := by decide +kernel
theorem d_L_law_787 : decode code 787 = .ok (.iconst 1, 1) := by decide +kernel
theorem d_L_law_788 : decode code 788 = .ok (.iadd, 1) := by decide +kernel
theorem d_L_law_789 : decode code 789 = .ok (.iaload, 1) := by decide +kernel
theorem d_L_law_790 : decode code 790 = .ok (.aload_n 0, 1) := by decide +kernel
theorem d_L_law_791 : decode code 791 = .ok (.iload 4, 2) := by decide +kernel
theorem d_L_law_793 : decode code 793 = .ok (.iconst 2, 1) := by decide +kernel
theorem d_L_law_794 : decode code 794 = .ok (.iadd, 1) := by decide +kernel
theorem d_L_law_795 : decode code 795 = .ok (.iaload, 1) := by decide +kernel
theorem d_L_law_796 : decode code 796 = .ok (.invokevirtual 79, 3) := by decide +kernel
theorem d_L_law_799 : decode code 799 = .ok (.if_icmp .eq 134, 3) := by decide +kernel
theorem d_L_law_802 : decode code 802 = .ok (.iconst 0, 1) := by decide +kernel
theorem d_L_law_803 : decode code 803 = .ok (.ireturn, 1) := by decide +kernel
theorem d_L_law_804 : decode code 804 = .ok (.aload_n 1, 1) := by decide +kernel
theorem d_L_law_805 : decode code 805 = .ok (.aload_n 0, 1) := by decide +kernel
theorem d_L_law_806 : decode code 806 = .ok (.iload 4, 2) := by decide +kernel
theorem d_L_law_808 : decode code 808 = .ok (.iconst 1, 1) := by decide +kernel
theorem d_L_law_809 : decode code 809 = .ok (.iadd, 1) := by decide +kernel
theorem d_L_law_810 : decode code 810 = .ok (.iaload, 1) := by decide +kernel
theorem d_L_law_811 : decode code 811 = .ok (.aload_n 0, 1) := by decide +kernel
theorem d_L_law_812 : decode code 812 = .ok (.iload 4, 2) := by decide +kernel
theorem d_L_law_814 : decode code 814 = .ok (.iconst 2, 1) := by decide +kernel
theorem d_L_law_815 : decode code 815 = .ok (.iadd, 1) := by decide +kernel
theorem d_L_law_816 : decode code 816 = .ok (.iaload, 1) := by decide +kernel
theorem d_L_law_817 : decode code 817 = .ok (.aload_n 0, 1) := by decide +kernel
theorem d_L_law_818 : decode code 818 = .ok (.iload 4, 2) := by decide +kernel
theorem d_L_law_820 : decode code 820 = .ok (.iconst 3, 1) := by decide +kernel
theorem d_L_law_821 : decode code 821 = .ok (.iadd, 1) := by decide +kernel
theorem d_L_law_822 : decode code 822 = .ok (.iaload, 1) := by decide +kernel
theorem d_L_law_823 : decode code 823 = .ok (.aload_n 3, 1) := by decide +kernel
theorem d_L_law_824 : decode code 824 = .ok (.invokestatic 80, 3) := by decide +kernel
theorem d_L_law_827 : decode code 827 = .ok (.istore 5, 2) := by decide +kernel
theorem d_L_law_829 : decode code 829 = .ok (.aload_n 2, 1) := by decide +kernel
theorem d_L_law_830 : decode code 830 = .ok (.aload_n 0, 1) := by decide +kernel
theorem d_L_law_831 : decode code 831 = .ok (.iload 4, 2) := by decide +kernel
theorem d_L_law_833 : decode code 833 = .ok (.iconst 1, 1) := by decide +kernel
theorem d_L_law_834 : decode code 834 = .ok (.iadd, 1) := by decide +kernel
theorem d_L_law_835 : decode code 835 = .ok (.iaload, 1) := by decide +kernel
theorem d_L_law_836 : decode code 836 = .ok (.aload_n 0, 1) := by decide +kernel
theorem d_L_law_837 : decode code 837 = .ok (.iload 4, 2) := by decide +kernel
theorem d_L_law_839 : decode code 839 = .ok (.iconst 2, 1) := by decide +kernel
theorem d_L_law_840 : decode code 840 = .ok (.iadd, 1) := by decide +kernel
theorem d_L_law_841 : decode code 841 = .ok (.iaload, 1) := by decide +kernel
theorem d_L_law_842 : decode code 842 = .ok (.aload_n 0, 1) := by decide +kernel
theorem d_L_law_843 : decode code 843 = .ok (.iload 4, 2) := by decide +kernel
theorem d_L_law_845 : decode code 845 = .ok (.iconst 3, 1) := by decide +kernel
theorem d_L_law_846 : decode code 846 = .ok (.iadd, 1) := by decide +kernel
theorem d_L_law_847 : decode code 847 = .ok (.iaload, 1) := by decide +kernel
theorem d_L_law_848 : decode code 848 = .ok (.invokevirtual 83, 3) := by decide +kernel
theorem d_L_law_851 : decode code 851 = .ok (.istore 6, 2) := by decide +kernel
theorem d_L_law_853 : decode code 853 = .ok (.aload_n 2, 1) := by decide +kernel
theorem d_L_law_854 : decode code 854 = .ok (.invokevirtual 37, 3) := by decide +kernel
theorem d_L_law_857 : decode code 857 = .ok (.iload 5, 2) := by decide +kernel
theorem d_L_law_859 : decode code 859 = .ok (.if_icmp .eq 5, 3) := by decide +kernel
theorem d_L_law_862 : decode code 862 = .ok (.iconst 0, 1) := by decide +kernel
theorem d_L_law_863 : decode code 863 = .ok (.ireturn, 1) := by decide +kernel
theorem d_L_law_864 : decode code 864 = .ok (.iload 5, 2) := by decide +kernel
theorem d_L_law_866 : decode code 866 = .ok (.ifCond .ne 15, 3) := by decide +kernel
theorem d_L_law_869 : decode code 869 = .ok (.aload_n 3, 1) := by decide +kernel
theorem d_L_law_870 : decode code 870 = .ok (.iconst 0, 1) := by decide +kernel
theorem d_L_law_871 : decode code 871 = .ok (.laload, 1) := by decide +kernel
theorem d_L_law_872 : decode code 872 = .ok (.iload 6, 2) := by decide +kernel
theorem d_L_law_874 : decode code 874 = .ok (.i2l, 1) := by decide +kernel
theorem d_L_law_875 : decode code 875 = .ok (.lcmp, 1) := by decide +kernel
theorem d_L_law_876 : decode code 876 = .ok (.ifCond .eq 5, 3) := by decide +kernel
theorem d_L_law_879 : decode code 879 = .ok (.iconst 0, 1) := by decide +kernel
theorem d_L_law_880 : decode code 880 = .ok (.ireturn, 1) := by decide +kernel
theorem d_L_law_881 : decode code 881 = .ok (.goto 52, 3) := by decide +kernel
theorem d_L_law_884 : decode code 884 = .ok (.aload_n 1, 1) := by decide +kernel
theorem d_L_law_885 : decode code 885 = .ok (.aload_n 0, 1) := by decide +kernel
theorem d_L_law_886 : decode code 886 = .ok (.iload 4, 2) := by decide +kernel
theorem d_L_law_888 : decode code 888 = .ok (.iconst 1, 1) := by decide +kernel
theorem d_L_law_889 : decode code 889 = .ok (.iadd, 1) := by decide +kernel
theorem d_L_law_890 : decode code 890 = .ok (.iaload, 1) := by decide +kernel
theorem d_L_law_891 : decode code 891 = .ok (.aload_n 0, 1) := by decide +kernel
theorem d_L_law_892 : decode code 892 = .ok (.iload 4, 2) := by decide +kernel
theorem d_L_law_894 : decode code 894 = .ok (.iconst 2, 1) := by decide +kernel
theorem d_L_law_895 : decode code 895 = .ok (.iadd, 1) := by decide +kernel
theorem d_L_law_896 : decode code 896 = .ok (.iaload, 1) := by decide +kernel
theorem d_L_law_897 : decode code 897 = .ok (.invokevirtual 84, 3) := by decide +kernel
theorem d_L_law_900 : decode code 900 = .ok (.aload_n 2, 1) := by decide +kernel
theorem d_L_law_901 : decode code 901 = .ok (.aload_n 0, 1) := by decide +kernel
theorem d_L_law_902 : decode code 902 = .ok (.iload 4, 2) := by decide +kernel
theorem d_L_law_904 : decode code 904 = .ok (.iconst 1, 1) := by decide +kernel
theorem d_L_law_905 : decode code 905 = .ok (.iadd, 1) := by decide +kernel
theorem d_L_law_906 : decode code 906 = .ok (.iaload, 1) := by decide +kernel
theorem d_L_law_907 : decode code 907 = .ok (.aload_n 0, 1) := by decide +kernel
theorem d_L_law_908 : decode code 908 = .ok (.iload 4, 2) := by decide +kernel
theorem d_L_law_910 : decode code 910 = .ok (.iconst 2, 1) := by decide +kernel
theorem d_L_law_911 : decode code 911 = .ok (.iadd, 1) := by decide +kernel
theorem d_L_law_912 : decode code 912 = .ok (.iaload, 1) := by decide +kernel
theorem d_L_law_913 : decode code 913 = .ok (.invokevirtual 88, 3) := by decide +kernel
theorem d_L_law_916 : decode code 916 = .ok (.lcmp, 1) := by decide +kernel
theorem d_L_law_917 : decode code 917 = .ok (.ifCond .eq 16, 3) := by decide +kernel
theorem d_L_law_920 : decode code 920 = .ok (.iconst 0, 1) := by decide +kernel
theorem d_L_law_921 : decode code 921 = .ok (.ireturn, 1) := by decide +kernel
theorem d_L_law_922 : decode code 922 = .ok (.aload_n 1, 1) := by decide +kernel
theorem d_L_law_923 : decode code 923 = .ok (.invokevirtual 89, 3) := by decide +kernel
theorem d_L_law_926 : decode code 926 = .ok (.aload_n 2, 1) := by decide +kernel
theorem d_L_law_927 : decode code 927 = .ok (.invokevirtual 92, 3) := by decide +kernel
theorem d_L_law_930 : decode code 930 = .ok (.goto 3, 3) := by decide +kernel
theorem d_L_law_933 : decode code 933 = .ok (.iinc 4 8, 3) := by decide +kernel
theorem d_L_law_936 : decode code 936 = .ok (.goto (-913), 3) := by decide +kernel
theorem d_L_law_939 : decode code 939 = .ok (.iconst 1, 1) := by decide +kernel
theorem d_L_law_940 : decode code 940 = .ok (.ireturn, 1) := by decide +kernel
end
section
/-- the tables' kinds of arrays that the worlds hold -/
abbrev TY (cJ cI cT : ClassId) : List (ClassId × FieldType) := [(cJ, .long), (cI, .int), (cT, .object "LitreFractions$Table")]
/-- a state holds these cells, and the tables are known -/
def wd (dC : Nat → ClassId) (dI : Nat → Nat → Nat) (cJ cI cT : ClassId) (ws : va_W) (U : State) : Prop := va_P (dC, dI) classes ws U.heap ∧ va_K (dC, dI) classes (TY cJ cI cT) U
theorem wd_blind {dC : Nat → ClassId} {dI : Nat → Nat → Nat} {cJ cI cT : ClassId} {ws : va_W} {as : List Value} : FrameBlind (va_Pc as (wd dC dI cJ cI cT ws)) := fun a U g mk q => ⟨q.1, q.2.1, va_K.moved (u := U) (U := U.calling g mk a) (Vm.Alike.refl U.vm) q.2.2⟩
theorem wd_pre {dC : Nat → ClassId} {dI : Nat → Nat → Nat} {cJ cI cT : ClassId} {ws : va_W} {as : List Value} {s : State} {H : Heap} (hP : va_P (dC, dI) classes ws H) (hK : va_K (dC, dI) classes (TY cJ cI cT) s) : ∀ U : State, U.heap = H → s.WarmedH U.vm → va_Pc as (wd dC dI cJ cI cT ws) as.toArray U := fun U hU hW => ⟨rfl, by rw [hU]; exact hP, va_K.moved hW.alike hK⟩
theorem nw_blind {as : List Value} : FrameBlind (va_Pc as (fun _ => True)) := fun _ _ _ _ h => h
theorem q_good {c : Cond} (h1 : c ∈ WG) : GoodIn WG (c :: WG) := fun w h => (List.mem_cons.mp h).elim (fun e => by rw [e]; exact ⟨h1, (WG_ok _ h1).2⟩) (fun h => ⟨h, (WG_ok _ h).2⟩)
section QC
variable {R rm : Room} {s : State} {args : Array Value} {own C host : String} {index maxL mc ms : Nat} {y : MethodName} {bytes : ByteArray} {ret : Option FieldType}
theorem q_S (n : Nat) (hg : ∀ w ∈ WG, w.before args s = true) (h1 : Cond.code y bytes maxL ret ∈ WG) (h2 : Cond.methodLink own index y ∈ WG) (h3 : Cond.static y ∈ WG) (h4 : Cond.initialized y.cls ∈ WG) (hrc : rm.cells = mc) (hrs : rm.slots = ms)
    (hd : y.cls ≠ "java/lang/invoke/MethodHandle" ∧ y.cls ≠ "java/lang/invoke/VarHandle" ∧ (parseMethodDescriptor y.desc).map (fun d => d.parameters.length) = some n) (hR : rm.frames + 1 ≤ R.frames ∧ 8 + (maxL + 11) + rm.locals ≤ R.locals) :
    CallB R s args own index y bytes maxL ret (Cond.code y bytes maxL ret :: WG) rm mc ms n ∧ (Cond.static y).before args s = true := ⟨callB_of n hg (q_good h1) rfl hrc hrs (hg _ h4) (hg _ h2) hd hR, hg _ h3⟩
theorem q_V (n : Nat) (hg : ∀ w ∈ WG, w.before args s = true) (h1 : Cond.code y bytes maxL ret ∈ WG) (h2 : Cond.methodLink own index y ∈ WG) (h3 : Cond.instanceMethod y ∈ WG) (h5 : Cond.selects C y y ∈ WG) (h4 : Cond.initialized y.cls ∈ WG) (hrc : rm.cells = mc) (hrs : rm.slots = ms)
    (hd : y.cls ≠ "java/lang/invoke/MethodHandle" ∧ y.cls ≠ "java/lang/invoke/VarHandle" ∧ (parseMethodDescriptor y.desc).map (fun d => d.parameters.length) = some n) (hR : rm.frames + 1 ≤ R.frames ∧ 8 + (maxL + 11) + rm.locals ≤ R.locals) :
    CallW R s args own C index y bytes maxL ret (Cond.code y bytes maxL ret :: WG) rm mc ms n := ⟨callB_of n hg (q_good h1) rfl hrc hrs (hg _ h4) (hg _ h2) hd hR, hg _ h3, hg _ h5⟩
theorem q_I (n : Nat) (hg : ∀ w ∈ WG, w.before args s = true) (h1 : Cond.code y bytes maxL none ∈ WG) (h2 : Cond.methodLink own index y ∈ WG) (h3 : Cond.instanceMethod y ∈ WG) (h4 : Cond.initialized y.cls ∈ WG) (hrc : rm.cells = mc) (hrs : rm.slots = ms) (hy1 : y.name = "<init>")
    (hd : y.cls ≠ "java/lang/invoke/MethodHandle" ∧ y.cls ≠ "java/lang/invoke/VarHandle" ∧ (parseMethodDescriptor y.desc).map (fun d => d.parameters.length) = some n) (hR : rm.frames + 1 ≤ R.frames ∧ 8 + (maxL + 11) + rm.locals ≤ R.locals) :
    CallB R s args own index y bytes maxL none (Cond.code y bytes maxL none :: WG) rm mc ms n ∧ y.name = "<init>" ∧ (Cond.instanceMethod y).before args s = true := ⟨callB_of n hg (q_good h1) rfl hrc hrs (hg _ h4) (hg _ h2) hd hR, hy1, hg _ h3⟩
theorem q_N (n : Nat) (hg : ∀ w ∈ WG, w.before args s = true) (h1 : Cond.code y bytes maxL ret ∈ WG) (h2 : va_Nw (.methodLinkNest own index y host) s) (h4 : Cond.initialized y.cls ∈ WG) (hrc : rm.cells = mc) (hrs : rm.slots = ms)
    (hd : y.cls ≠ "java/lang/invoke/MethodHandle" ∧ y.cls ≠ "java/lang/invoke/VarHandle" ∧ (parseMethodDescriptor y.desc).map (fun d => d.parameters.length) = some n) (hR : rm.frames + 1 ≤ R.frames ∧ 8 + (maxL + 11) + rm.locals ≤ R.locals) :
    va_CN R s args own index y host bytes maxL ret (Cond.code y bytes maxL ret :: WG) rm mc ms n := va_cnB n hg (q_good h1) rfl hrc hrs h2 (hg _ h4) hd hR
end QC
/-- a method that no native replaces, its class whatever -/
theorem met_F {l : Launch} {y : MethodName} {ws ws' : List Cond} {rm : Room} {Pc : Array Value → State → Prop} {Qc : Array Value → State → Outcome → State → Prop} {mc ms : Nat} {free : Addr → Prop} {cc : ByteArray} {maxL : Nat} {ret : Option FieldType}
    (hy : plainFor y = true) (hw : ws = Cond.code y cc maxL ret :: ws')
    (body : ∀ p e s m args below meth c s₁, BodyLoose p l y (headSpec ws rm) cc maxL ret e s m args below meth c s₁ → c.maxLocals = maxL → Pc args s →
      W p l e (headSpec ws rm).room s m args below meth c s.heap [] 0 0 (MQ below Qc args s mc ms free) (entryFrame m args maxL)) : Met l y ws rm Pc Qc mc ms free := by
  refine MetFree.of_bodySF (code := cc) (maxLocals := maxL) (ret := ret) hy ?_ ?_
  · intro args s m h hn
    obtain ⟨meth, c, h1, h2, h3, h4, h5, h6, -, -⟩ := Cond.code_spec hn (atoms_spec (ws := ws) h _ (by rw [hw]; exact List.mem_cons_self))
    exact ⟨meth, c, h1, h2, h3, h4, h5, h6⟩
  · intro p e s m args below meth c s₁ B hml hP _
    have hh0 : s₁.heap = s.heap := by rw [B.state]; rfl
    obtain ⟨t, a1, o, b1, b2, b3⟩ := body p e s m args below meth c s₁ B hml hP s₁ hh0 (Stand.of_body B)
    exact ⟨t, o, a1, b1, b2, ⟨b3.1, b3.2⟩⟩
end
section
/-- Euclid's steps, counted -/
def eu_N : Nat → Nat → Nat → Nat
  | 0, a, _ => a
  | n + 1, a, b => if b = 0 then a else eu_N n b (a % b)
def eu_L : Nat → Int64 → Int64 → Int64
  | 0, a, _ => a
  | n + 1, a, b => if b = 0 then a else eu_L n b (a - a / b * b)
theorem eu_gcd : ∀ (n a b : Nat), b ≤ a → a * b < 2 ^ n → eu_N (n + 1) a b = Nat.gcd a b
  | 0, a, b, h, hb => by
    have h0 : b = 0 := by
      rcases Nat.eq_zero_or_pos b with h0 | h0
      · exact h0
      · exact absurd (Nat.mul_pos (Nat.lt_of_lt_of_le h0 h) h0) (by omega)
    subst h0
    simp [eu_N]
  | n + 1, a, b, h, hb => by
    unfold eu_N
    by_cases h0 : b = 0
    · subst h0; simp
    · rw [if_neg h0]
      have hpos : 0 < b := Nat.pos_of_ne_zero h0
      have hlt := Nat.mod_lt a hpos
      have hdm := Nat.div_add_mod a b
      have hd : 1 ≤ a / b := (Nat.one_le_div_iff hpos).mpr h
      have h1 := Nat.mul_le_mul_left b hd
      have h3 : 2 * (b * (a % b)) < 2 ^ (n + 1) := by
        have h4 : b * (a % b) + b * (a % b) ≤ b * a := by
          rw [← Nat.mul_add]
          exact Nat.mul_le_mul_left b (by omega)
        rw [Nat.mul_comm] at hb
        omega
      rw [eu_gcd n b (a % b) (Nat.le_of_lt hlt) (by rw [Nat.pow_succ] at h3; omega), Nat.gcd_comm a b, Nat.gcd_rec b a, Nat.gcd_comm]
theorem eu_all (a b : Nat) (ha : a < 2 ^ 64) (hb : b < 2 ^ 64) : eu_N 1000 a b = Nat.gcd a b := by
  have hab : a * b < 2 ^ 128 := Nat.lt_of_lt_of_le (Nat.mul_lt_mul'' ha hb) (by decide)
  have hp : (2 : Nat) ^ 128 ≤ 2 ^ 998 := Nat.pow_le_pow_right (by decide) (by decide)
  by_cases h : b ≤ a
  · exact eu_gcd 999 a b h (Nat.lt_of_lt_of_le hab (Nat.le_trans hp (Nat.pow_le_pow_right (by decide) (by decide))))
  · have hlt : a < b := Nat.lt_of_not_le h
    show (if b = 0 then a else eu_N 999 b (a % b)) = _
    rw [if_neg (by omega), Nat.mod_eq_of_lt hlt, eu_gcd 998 b a (Nat.le_of_lt hlt) (by rw [Nat.mul_comm]; exact Nat.lt_of_lt_of_le hab hp), Nat.gcd_comm]
theorem eu_LN : ∀ (n : Nat) (a b : Int64), 0 ≤ a.toInt → 0 ≤ b.toInt → (eu_L n a b).toInt = (eu_N n a.toInt.toNat b.toInt.toNat : Nat)
  | 0, a, b, ha, _ => by
    show a.toInt = ((a.toInt.toNat : Nat) : Int)
    omega
  | n + 1, a, b, ha, hb => by
    unfold eu_L eu_N
    by_cases h0 : b = 0
    · subst h0
      rw [if_pos rfl, if_pos (show (0 : Int64).toInt.toNat = 0 from rfl)]
      exact (Int.toNat_of_nonneg ha).symm
    · have h1 : b.toInt ≠ 0 := fun h => h0 (Int64.toInt_inj.mp h)
      have hr := Jvm.Kit.i64_rem_nonneg (x := a) (y := b) ha
      rw [if_neg h0, if_neg (by omega), eu_LN n b _ hb (by rw [hr]; exact Int.emod_nonneg _ h1), hr]
      rw [Int.toNat_emod ha hb]
end
section
/-- a state of known size holds these cells, apart from each other, and the tables are known -/
def wx (dC : Nat → ClassId) (dI : Nat → Nat → Nat) (cJ cI cT : ClassId) (sz : Nat) (ws : va_W) (U : State) : Prop := U.heap.size = sz ∧ va_P (dC, dI) classes ws U.heap ∧ va_K (dC, dI) classes (TY cJ cI cT) U ∧ va_D (fun _ => True) ws
theorem wx_blind {dC : Nat → ClassId} {dI : Nat → Nat → Nat} {cJ cI cT : ClassId} {sz : Nat} {ws : va_W} {as : List Value} : FrameBlind (va_Pc as (wx dC dI cJ cI cT sz ws)) := fun a U g mk q => ⟨q.1, q.2.1, q.2.2.1, va_K.moved (u := U) (U := U.calling g mk a) (Vm.Alike.refl U.vm) q.2.2.2.1, q.2.2.2.2⟩
theorem wx_pre {dC : Nat → ClassId} {dI : Nat → Nat → Nat} {cJ cI cT : ClassId} {A : Nat → Prop} {ws : va_W} {as : List Value} {s : State} {H : Heap} (hP : va_P (dC, dI) classes ws H) (hK : va_K (dC, dI) classes (TY cJ cI cT) s) (hD : va_D A ws) : ∀ U : State, U.heap = H → s.WarmedH U.vm → va_Pc as (wx dC dI cJ cI cT H.size ws) as.toArray U := fun U hU hW => ⟨rfl, by rw [hU], by rw [hU]; exact hP, va_K.moved hW.alike hK, hD.weaken (fun _ _ _ _ => trivial)⟩
/-- the cells behind a method -/
def wb (dC : Nat → ClassId) (dI : Nat → Nat → Nat) (cJ cI cT : ClassId) (A : Nat → Prop) (ws : va_W) (t : State) : Prop := va_P (dC, dI) classes ws t.heap ∧ va_K (dC, dI) classes (TY cJ cI cT) t ∧ va_D A ws
theorem wb_of {dC : Nat → ClassId} {dI : Nat → Nat → Nat} {cJ cI cT : ClassId} {A : Nat → Prop} {ws : va_W} {s t : State} {H : Heap} (ht : t.heap = H) (hW : s.WarmedH t.vm) (hP : va_P (dC, dI) classes ws H) (hK : va_K (dC, dI) classes (TY cJ cI cT) s) (hD : va_D A ws) : wb dC dI cJ cI cT A ws t := ⟨by rw [ht]; exact hP, va_K.moved hW.alike hK, hD⟩
/-- the places of small numbers -/
theorem in_lt {a n : Int32} {N : Nat} (h0 : ¬ a < 0) (h1 : a < n) (hn : n.toInt ≤ N) : vp_in a N := by
  rw [vp_in_iff]
  rw [Int32.lt_iff_toInt_lt] at h0 h1
  have e0 : (0 : Int32).toInt = 0 := rfl
  omega
theorem in_nle {a n : Int32} {N : Nat} (h0 : ¬ a < 0) (h1 : ¬ n ≤ a) (hn : n.toInt ≤ N) : vp_in a N := by
  rw [vp_in_iff]
  rw [Int32.lt_iff_toInt_lt] at h0
  rw [Int32.le_iff_toInt_le] at h1
  have e0 : (0 : Int32).toInt = 0 := rfl
  omega
theorem in_cnt {n N' : Int32} {N : Nat} (h0 : 0 ≤ n.toInt) (h1 : n < N') (hn : N'.toInt ≤ N) : vp_in n N := by
  rw [vp_in_iff]
  rw [Int32.lt_iff_toInt_lt] at h1
  omega
theorem nz_pos {y : Int64} (h : ¬ y < 1) : ¬ y = 0 := fun e => by subst e; exact absurd (by decide) h
theorem nz_neg {y : Int64} (h : ¬ y < 1) : ¬ -y = 0 := fun e => by
  have h1 : y = 0 := by
    have := congrArg (fun z : Int64 => -z) e
    simpa using this
  exact nz_pos h h1
end
section
/-- words that the tables say and that stay, by rows of their own -/
def NWL : List Cond := [(Cond.methodLinkNest "LitreFractions" (29 : Nat) ({ cls := "LitreFractions$Table", name := "<init>", desc := "()V" } : Jvm.MethodName) "LitreFractions"), (Cond.fieldLinkNest "LitreFractions" (168 : Nat) "LitreFractions$Table" "xs" "[J" "LitreFractions"), (Cond.fieldLinkNest "LitreFractions" (91 : Nat) "LitreFractions$Table" "ys" "[J" "LitreFractions"), (Cond.fieldLinkNest "LitreFractions" (94 : Nat) "LitreFractions$Table" "below" "J" "LitreFractions"), (Cond.fieldLinkNest "LitreFractions" (83 : Nat) "LitreFractions$Table" "count" "I" "LitreFractions"), (Cond.methodLinkNest "LitreFractions" (75 : Nat) ({ cls := "LitreFractions$Table", name := "takes", desc := "(JJJ)Z" } : Jvm.MethodName) "LitreFractions"), (Cond.methodLinkNest "LitreFractions" (79 : Nat) ({ cls := "LitreFractions$Table", name := "append", desc := "(JJJ)V" } : Jvm.MethodName) "LitreFractions"), (Cond.methodLinkNest "LitreFractions" (87 : Nat) ({ cls := "LitreFractions$Table", name := "firstNotBefore", desc := "(JJ)I" } : Jvm.MethodName) "LitreFractions"), (Cond.castable "java/lang/ArithmeticException" "java/lang/ArithmeticException"), (Cond.declares ({ cls := "java/lang/RuntimeException", name := "<init>", desc := "(Ljava/lang/String;)V" } : Jvm.MethodName)), (Cond.declares ({ cls := "java/lang/Exception", name := "<init>", desc := "(Ljava/lang/String;)V" } : Jvm.MethodName)), (Cond.declares ({ cls := "java/lang/Throwable", name := "<init>", desc := "(Ljava/lang/String;)V" } : Jvm.MethodName)), (Cond.castable "java/lang/IndexOutOfBoundsException" "java/lang/IndexOutOfBoundsException")]
def nwd (U : State) : Prop := ∀ w ∈ NWL, va_Nw w U
theorem nw_0 : (Cond.methodLinkNest "LitreFractions" (29 : Nat) ({ cls := "LitreFractions$Table", name := "<init>", desc := "()V" } : Jvm.MethodName) "LitreFractions") ∈ NWL := List.mem_of_getElem? (i := 0) rfl
theorem nw_1 : (Cond.fieldLinkNest "LitreFractions" (168 : Nat) "LitreFractions$Table" "xs" "[J" "LitreFractions") ∈ NWL := List.mem_of_getElem? (i := 1) rfl
theorem nw_2 : (Cond.fieldLinkNest "LitreFractions" (91 : Nat) "LitreFractions$Table" "ys" "[J" "LitreFractions") ∈ NWL := List.mem_of_getElem? (i := 2) rfl
theorem nw_3 : (Cond.fieldLinkNest "LitreFractions" (94 : Nat) "LitreFractions$Table" "below" "J" "LitreFractions") ∈ NWL := List.mem_of_getElem? (i := 3) rfl
theorem nw_4 : (Cond.fieldLinkNest "LitreFractions" (83 : Nat) "LitreFractions$Table" "count" "I" "LitreFractions") ∈ NWL := List.mem_of_getElem? (i := 4) rfl
theorem nw_5 : (Cond.methodLinkNest "LitreFractions" (75 : Nat) ({ cls := "LitreFractions$Table", name := "takes", desc := "(JJJ)Z" } : Jvm.MethodName) "LitreFractions") ∈ NWL := List.mem_of_getElem? (i := 5) rfl
theorem nw_6 : (Cond.methodLinkNest "LitreFractions" (79 : Nat) ({ cls := "LitreFractions$Table", name := "append", desc := "(JJJ)V" } : Jvm.MethodName) "LitreFractions") ∈ NWL := List.mem_of_getElem? (i := 6) rfl
theorem nw_7 : (Cond.methodLinkNest "LitreFractions" (87 : Nat) ({ cls := "LitreFractions$Table", name := "firstNotBefore", desc := "(JJ)I" } : Jvm.MethodName) "LitreFractions") ∈ NWL := List.mem_of_getElem? (i := 7) rfl
theorem nw_8 : (Cond.castable "java/lang/ArithmeticException" "java/lang/ArithmeticException") ∈ NWL := List.mem_of_getElem? (i := 8) rfl
theorem nw_9 : (Cond.declares ({ cls := "java/lang/RuntimeException", name := "<init>", desc := "(Ljava/lang/String;)V" } : Jvm.MethodName)) ∈ NWL := List.mem_of_getElem? (i := 9) rfl
theorem nw_10 : (Cond.declares ({ cls := "java/lang/Exception", name := "<init>", desc := "(Ljava/lang/String;)V" } : Jvm.MethodName)) ∈ NWL := List.mem_of_getElem? (i := 10) rfl
theorem nw_11 : (Cond.declares ({ cls := "java/lang/Throwable", name := "<init>", desc := "(Ljava/lang/String;)V" } : Jvm.MethodName)) ∈ NWL := List.mem_of_getElem? (i := 11) rfl
theorem nw_12 : (Cond.castable "java/lang/IndexOutOfBoundsException" "java/lang/IndexOutOfBoundsException") ∈ NWL := List.mem_of_getElem? (i := 12) rfl
theorem nwd_warm {s U : State} (hW : s.WarmedH U.vm) (h : nwd s) : nwd U := List.forall_mem_cons.mpr ⟨va_Nw.warmM hW (h _ nw_0), List.forall_mem_cons.mpr ⟨va_Nw.warmF hW (h _ nw_1), List.forall_mem_cons.mpr ⟨va_Nw.warmF hW (h _ nw_2), List.forall_mem_cons.mpr ⟨va_Nw.warmF hW (h _ nw_3), List.forall_mem_cons.mpr ⟨va_Nw.warmF hW (h _ nw_4), List.forall_mem_cons.mpr ⟨va_Nw.warmM hW (h _ nw_5), List.forall_mem_cons.mpr ⟨va_Nw.warmM hW (h _ nw_6), List.forall_mem_cons.mpr ⟨va_Nw.warmM hW (h _ nw_7), List.forall_mem_cons.mpr ⟨va_Nw.warmC hW (h _ nw_8), List.forall_mem_cons.mpr ⟨va_Nw.warmD hW (h _ nw_9), List.forall_mem_cons.mpr ⟨va_Nw.warmD hW (h _ nw_10), List.forall_mem_cons.mpr ⟨va_Nw.warmD hW (h _ nw_11), List.forall_mem_cons.mpr ⟨va_Nw.warmC hW (h _ nw_12), fun _ h => absurd h List.not_mem_nil⟩⟩⟩⟩⟩⟩⟩⟩⟩⟩⟩⟩⟩
theorem nwd_same {s U : State} (e : s.vm = U.vm) (h : nwd s) : nwd U := List.forall_mem_cons.mpr ⟨va_Nw.same rfl e (h _ nw_0), List.forall_mem_cons.mpr ⟨va_Nw.same rfl e (h _ nw_1), List.forall_mem_cons.mpr ⟨va_Nw.same rfl e (h _ nw_2), List.forall_mem_cons.mpr ⟨va_Nw.same rfl e (h _ nw_3), List.forall_mem_cons.mpr ⟨va_Nw.same rfl e (h _ nw_4), List.forall_mem_cons.mpr ⟨va_Nw.same rfl e (h _ nw_5), List.forall_mem_cons.mpr ⟨va_Nw.same rfl e (h _ nw_6), List.forall_mem_cons.mpr ⟨va_Nw.same rfl e (h _ nw_7), List.forall_mem_cons.mpr ⟨va_Nw.same rfl e (h _ nw_8), List.forall_mem_cons.mpr ⟨va_Nw.same rfl e (h _ nw_9), List.forall_mem_cons.mpr ⟨va_Nw.same rfl e (h _ nw_10), List.forall_mem_cons.mpr ⟨va_Nw.same rfl e (h _ nw_11), List.forall_mem_cons.mpr ⟨va_Nw.same rfl e (h _ nw_12), fun _ h => absurd h List.not_mem_nil⟩⟩⟩⟩⟩⟩⟩⟩⟩⟩⟩⟩⟩
theorem nwd_of {s : State} {args : Array Value} (hts : ∀ w ∈ lw_tbl, w.before args s = true) : nwd s := List.forall_mem_cons.mpr ⟨va_Nw.of rfl (hts _ (List.mem_of_getElem? (i := 34) rfl)), List.forall_mem_cons.mpr ⟨va_Nw.of rfl (hts _ (List.mem_of_getElem? (i := 39) rfl)), List.forall_mem_cons.mpr ⟨va_Nw.of rfl (hts _ (List.mem_of_getElem? (i := 41) rfl)), List.forall_mem_cons.mpr ⟨va_Nw.of rfl (hts _ (List.mem_of_getElem? (i := 43) rfl)), List.forall_mem_cons.mpr ⟨va_Nw.of rfl (hts _ (List.mem_of_getElem? (i := 45) rfl)), List.forall_mem_cons.mpr ⟨va_Nw.of rfl (hts _ (List.mem_of_getElem? (i := 145) rfl)), List.forall_mem_cons.mpr ⟨va_Nw.of rfl (hts _ (List.mem_of_getElem? (i := 155) rfl)), List.forall_mem_cons.mpr ⟨va_Nw.of rfl (hts _ (List.mem_of_getElem? (i := 163) rfl)), List.forall_mem_cons.mpr ⟨va_Nw.of rfl (hts _ (List.mem_of_getElem? (i := 208) rfl)), List.forall_mem_cons.mpr ⟨va_Nw.of rfl (hts _ (List.mem_of_getElem? (i := 210) rfl)), List.forall_mem_cons.mpr ⟨va_Nw.of rfl (hts _ (List.mem_of_getElem? (i := 212) rfl)), List.forall_mem_cons.mpr ⟨va_Nw.of rfl (hts _ (List.mem_of_getElem? (i := 214) rfl)), List.forall_mem_cons.mpr ⟨va_Nw.of rfl (hts _ (List.mem_of_getElem? (i := 306) rfl)), fun _ h => absurd h List.not_mem_nil⟩⟩⟩⟩⟩⟩⟩⟩⟩⟩⟩⟩⟩
theorem and_blind {as : List Value} {B C : State → Prop} (hB : FrameBlind (va_Pc as B)) (hC : FrameBlind (va_Pc as C)) : FrameBlind (va_Pc as (fun U => B U ∧ C U)) := fun a U g mk q => ⟨q.1, (hB a U g mk ⟨q.1, q.2.1⟩).2, (hC a U g mk ⟨q.1, q.2.2⟩).2⟩
theorem nwd_blind {as : List Value} : FrameBlind (va_Pc as nwd) := fun a U g mk q => ⟨q.1, nwd_same (s := U) (U := U.calling g mk a) rfl q.2⟩
theorem and_pre {as : List Value} {B C : State → Prop} {s : State} {H : Heap} (hB : ∀ U : State, U.heap = H → s.WarmedH U.vm → va_Pc as B as.toArray U) (hC : ∀ U : State, U.heap = H → s.WarmedH U.vm → C U) : ∀ U : State, U.heap = H → s.WarmedH U.vm → va_Pc as (fun U => B U ∧ C U) as.toArray U := fun U hU hW => ⟨rfl, (hB U hU hW).2, hC U hU hW⟩
theorem nwd_pre {s : State} {H : Heap} (h : nwd s) : ∀ U : State, U.heap = H → s.WarmedH U.vm → nwd U := fun _ _ hW => nwd_warm hW h
theorem in_pred {n : Int32} {N : Nat} {N' : Int32} (h0 : 0 ≤ n.toInt) (h1 : ¬ N' ≤ n) (h2 : ¬ n = 0) (hN : N'.toInt = N) : vp_in (n - 1) N := by
  rw [vp_in_iff]
  rw [Int32.le_iff_toInt_le] at h1
  have h3 : n.toInt ≠ 0 := fun e => h2 (Int32.toInt_inj.mp e)
  have hlt := Int32.toInt_lt n
  have e1 : (n - 1).toInt = n.toInt - 1 := Jvm.Kit.i32_sub (by have : (1 : Int32).toInt = 1 := rfl; omega) (by have : (1 : Int32).toInt = 1 := rfl; omega)
  omega
end
section
def f_JM_floorDiv (x : Int64) (y : Int64) : Int64 := if 0 ≤ (x ^^^ y) then (x / y) else if ((x / y) * y) = x then (x / y) else ((x / y) - 1)
set_option maxHeartbeats 4000000 in
set_option maxRecDepth 100000 in
theorem k_JM_floorDiv (l : Launch) (x : Int64) (y : Int64) (h0 : ¬ y = 0) : Met l y_JM_floorDiv w_JM_floorDiv ({ frames := 0, cells := 0, slots := 0, locals := 0 }) (va_Pc [.long x, .long y] (fun _ => True)) (k2_QcV (.long (f_JM_floorDiv x y))) 0 0 (fun _ => False) := by
  refine met_F (cc := c_JM_floorDiv) (maxL := 6) (ret := (Option.some Jvm.ClassFile.FieldType.long)) (by decide +kernel) rfl ?_
  intro p e s m args below meth c s₁ B hml hv
  obtain ⟨rfl, -⟩ := hv
  have hx := B.exec
  have hb := B.bytes
  have hr := B.returns
  have hts := atoms_spec (ws := w_JM_floorDiv) B.pre
  have hg : ∀ w ∈ WG, w.before _ s = true := fun w h => hts w (List.mem_cons_of_mem _ h)
  have hown : s.vm.findClass R_JM = some m.cls := findClass_of_methodNamed B.named
  have hlocks := B.notSynchronized
  have hl := lv_entry ([.long x, .long y]) (n := 6) (Nat.le_of_ble_eq_true rfl)
  rw [lg_entry_eq]
  generalize (lg_sl ([.long x, .long y]) ++ List.replicate (6 - (lg_sl ([.long x, .long y])).length) Slot.unset).toArray = ls at hl ⊢
  have hl : lv_has ls 6 [(0, .long x), (2, .long y)] := hl
  refine lv_lload_n hx hb d_JM_floorDiv_0 rfl (lv_at hl 0 rfl) ?_
  refine lv_lload_n hx hb d_JM_floorDiv_1 rfl (lv_at hl 1 rfl) ?_
  refine lv_ldiv hx hb d_JM_floorDiv_2 h0 ?_
  refine lv_topl (fun v_1 ev_1 => ?_)
  refine lv_lstore (lv' := [(4, .long v_1), (0, .long x), (2, .long y)]) hx hb d_JM_floorDiv_3 hl (by decide) rfl (fun ls hl => ?_)
  refine lv_lload_n hx hb d_JM_floorDiv_5 rfl (lv_at hl 1 rfl) ?_
  refine lv_lload_n hx hb d_JM_floorDiv_6 rfl (lv_at hl 2 rfl) ?_
  refine lv_lxor hx hb d_JM_floorDiv_7 ?_
  refine lv_lconst (v := 0) hx hb d_JM_floorDiv_8 (by decide) ?_
  refine W.lcmp hx hb d_JM_floorDiv_9 ?_
  refine lv_if_ge (tgt := 27) hx hb d_JM_floorDiv_10 (by decide) (fun c_2 => ?_) (fun c_2 => ?_)
  · skip
    rw [lg_cmp_ge] at c_2
    refine lv_lload hx hb d_JM_floorDiv_27 (lv_at hl 0 rfl) ?_
    subst ev_1
    have hz : f_JM_floorDiv x y = (x / y) := by unfold f_JM_floorDiv; rw [if_pos c_2]
    exact W.lret hx hb hr (fun t ht _ => ⟨by rw [hz], ht⟩) (fun _ h => by cases h) d_JM_floorDiv_29
  · skip
    rw [lg_cmp_ge] at c_2
    refine lv_lload hx hb d_JM_floorDiv_13 (lv_at hl 0 rfl) ?_
    refine lv_lload_n hx hb d_JM_floorDiv_15 rfl (lv_at hl 2 rfl) ?_
    refine lv_lmul hx hb d_JM_floorDiv_16 ?_
    refine lv_lload_n hx hb d_JM_floorDiv_17 rfl (lv_at hl 1 rfl) ?_
    refine W.lcmp hx hb d_JM_floorDiv_18 ?_
    refine lv_if_eq (tgt := 27) hx hb d_JM_floorDiv_19 (by decide) (fun c_3 => ?_) (fun c_3 => ?_)
    · skip
      rw [lg_cmp_eq] at c_3
      refine lv_lload hx hb d_JM_floorDiv_27 (lv_at hl 0 rfl) ?_
      subst ev_1
      have hz : f_JM_floorDiv x y = (x / y) := by unfold f_JM_floorDiv; rw [if_neg c_2, if_pos c_3]
      exact W.lret hx hb hr (fun t ht _ => ⟨by rw [hz], ht⟩) (fun _ h => by cases h) d_JM_floorDiv_29
    · skip
      rw [lg_cmp_eq] at c_3
      refine lv_lload hx hb d_JM_floorDiv_22 (lv_at hl 0 rfl) ?_
      refine lv_lconst (v := 1) hx hb d_JM_floorDiv_24 (by decide) ?_
      refine lv_lsub hx hb d_JM_floorDiv_25 ?_
      subst ev_1
      have hz : f_JM_floorDiv x y = (x / y) - 1 := by unfold f_JM_floorDiv; rw [if_neg c_2, if_neg c_3]
      exact W.lret hx hb hr (fun t ht _ => ⟨by rw [hz], ht⟩) (fun _ h => by cases h) d_JM_floorDiv_26
def f_JM_floorMod (x : Int64) (y : Int64) : Int64 := if 0 ≤ (x ^^^ y) then (x - x / y * y) else if (x - x / y * y) = 0 then (x - x / y * y) else ((x - x / y * y) + y)
set_option maxHeartbeats 4000000 in
set_option maxRecDepth 100000 in
theorem k_JM_floorMod (l : Launch) (x : Int64) (y : Int64) (h0 : ¬ y = 0) : Met l y_JM_floorMod w_JM_floorMod ({ frames := 0, cells := 0, slots := 0, locals := 0 }) (va_Pc [.long x, .long y] (fun _ => True)) (k2_QcV (.long (f_JM_floorMod x y))) 0 0 (fun _ => False) := by
  refine met_F (cc := c_JM_floorMod) (maxL := 6) (ret := (Option.some Jvm.ClassFile.FieldType.long)) (by decide +kernel) rfl ?_
  intro p e s m args below meth c s₁ B hml hv
  obtain ⟨rfl, -⟩ := hv
  have hx := B.exec
  have hb := B.bytes
  have hr := B.returns
  have hts := atoms_spec (ws := w_JM_floorMod) B.pre
  have hg : ∀ w ∈ WG, w.before _ s = true := fun w h => hts w (List.mem_cons_of_mem _ h)
  have hown : s.vm.findClass R_JM = some m.cls := findClass_of_methodNamed B.named
  have hlocks := B.notSynchronized
  have hl := lv_entry ([.long x, .long y]) (n := 6) (Nat.le_of_ble_eq_true rfl)
  rw [lg_entry_eq]
  generalize (lg_sl ([.long x, .long y]) ++ List.replicate (6 - (lg_sl ([.long x, .long y])).length) Slot.unset).toArray = ls at hl ⊢
  have hl : lv_has ls 6 [(0, .long x), (2, .long y)] := hl
  refine lv_lload_n hx hb d_JM_floorMod_0 rfl (lv_at hl 0 rfl) ?_
  refine lv_lload_n hx hb d_JM_floorMod_1 rfl (lv_at hl 1 rfl) ?_
  refine lv_lrem hx hb d_JM_floorMod_2 h0 ?_
  refine lv_topl (fun v_1 ev_1 => ?_)
  refine lv_lstore (lv' := [(4, .long v_1), (0, .long x), (2, .long y)]) hx hb d_JM_floorMod_3 hl (by decide) rfl (fun ls hl => ?_)
  refine lv_lload_n hx hb d_JM_floorMod_5 rfl (lv_at hl 1 rfl) ?_
  refine lv_lload_n hx hb d_JM_floorMod_6 rfl (lv_at hl 2 rfl) ?_
  refine lv_lxor hx hb d_JM_floorMod_7 ?_
  refine lv_lconst (v := 0) hx hb d_JM_floorMod_8 (by decide) ?_
  refine W.lcmp hx hb d_JM_floorMod_9 ?_
  refine lv_if_ge (tgt := 25) hx hb d_JM_floorMod_10 (by decide) (fun c_2 => ?_) (fun c_2 => ?_)
  · skip
    rw [lg_cmp_ge] at c_2
    refine lv_lload hx hb d_JM_floorMod_25 (lv_at hl 0 rfl) ?_
    subst ev_1
    have hz : f_JM_floorMod x y = (x - x / y * y) := by unfold f_JM_floorMod; rw [if_pos c_2]
    exact W.lret hx hb hr (fun t ht _ => ⟨by rw [hz], ht⟩) (fun _ h => by cases h) d_JM_floorMod_27
  · skip
    rw [lg_cmp_ge] at c_2
    refine lv_lload hx hb d_JM_floorMod_13 (lv_at hl 0 rfl) ?_
    refine lv_lconst (v := 0) hx hb d_JM_floorMod_15 (by decide) ?_
    refine W.lcmp hx hb d_JM_floorMod_16 ?_
    refine lv_if_eq (tgt := 25) hx hb d_JM_floorMod_17 (by decide) (fun c_3 => ?_) (fun c_3 => ?_)
    · skip
      rw [lg_cmp_eq] at c_3
      refine lv_lload hx hb d_JM_floorMod_25 (lv_at hl 0 rfl) ?_
      subst ev_1
      have hz : f_JM_floorMod x y = (x - x / y * y) := by unfold f_JM_floorMod; rw [if_neg c_2, if_pos c_3]
      exact W.lret hx hb hr (fun t ht _ => ⟨by rw [hz], ht⟩) (fun _ h => by cases h) d_JM_floorMod_27
    · skip
      rw [lg_cmp_eq] at c_3
      refine lv_lload hx hb d_JM_floorMod_20 (lv_at hl 0 rfl) ?_
      refine lv_lload_n hx hb d_JM_floorMod_22 rfl (lv_at hl 2 rfl) ?_
      refine lv_ladd hx hb d_JM_floorMod_23 ?_
      subst ev_1
      have hz : f_JM_floorMod x y = (x - x / y * y) + y := by unfold f_JM_floorMod; rw [if_neg c_2, if_neg c_3]
      exact W.lret hx hb hr (fun t ht _ => ⟨by rw [hz], ht⟩) (fun _ h => by cases h) d_JM_floorMod_24
def f_JL_compare (x : Int64) (y : Int64) : Int32 := if y ≤ x then if x = y then 0 else 1 else (-1)
set_option maxHeartbeats 4000000 in
set_option maxRecDepth 100000 in
theorem k_JL_compare (l : Launch) (x : Int64) (y : Int64) : Met l y_JL_compare w_JL_compare ({ frames := 0, cells := 0, slots := 0, locals := 0 }) (va_Pc [.long x, .long y] (fun _ => True)) (k2_QcV (.int (f_JL_compare x y))) 0 0 (fun _ => False) := by
  refine Met.ofW (cc := c_JL_compare) (maxL := 4) (ret := (Option.some Jvm.ClassFile.FieldType.int)) (by decide) rfl ?_
  intro p e s m args below meth c s₁ B hml hv
  obtain ⟨rfl, -⟩ := hv
  have hx := B.exec
  have hb := B.bytes
  have hr := B.returns
  have hts := atoms_spec (ws := w_JL_compare) B.pre
  have hg : ∀ w ∈ WG, w.before _ s = true := fun w h => hts w (List.mem_cons_of_mem _ h)
  have hown : s.vm.findClass R_JL = some m.cls := findClass_of_methodNamed B.named
  have hlocks := B.notSynchronized
  have hl := lv_entry ([.long x, .long y]) (n := 4) (Nat.le_of_ble_eq_true rfl)
  rw [lg_entry_eq]
  generalize (lg_sl ([.long x, .long y]) ++ List.replicate (4 - (lg_sl ([.long x, .long y])).length) Slot.unset).toArray = ls at hl ⊢
  have hl : lv_has ls 4 [(0, .long x), (2, .long y)] := hl
  refine lv_lload_n hx hb d_JL_compare_0 rfl (lv_at hl 0 rfl) ?_
  refine lv_lload_n hx hb d_JL_compare_1 rfl (lv_at hl 1 rfl) ?_
  refine W.lcmp hx hb d_JL_compare_2 ?_
  refine lv_if_ge (tgt := 10) hx hb d_JL_compare_3 (by decide) (fun c_1 => ?_) (fun c_1 => ?_)
  · skip
    rw [lg_cmp_ge] at c_1
    refine lv_lload_n hx hb d_JL_compare_10 rfl (lv_at hl 0 rfl) ?_
    refine lv_lload_n hx hb d_JL_compare_11 rfl (lv_at hl 1 rfl) ?_
    refine W.lcmp hx hb d_JL_compare_12 ?_
    refine lv_if_ne (tgt := 20) hx hb d_JL_compare_13 (by decide) (fun c_2 => ?_) (fun c_2 => ?_)
    · skip
      rw [lg_cmp_eq] at c_2
      refine lv_iconst (v := 1) hx hb d_JL_compare_20 (by decide) ?_
      have hz : f_JL_compare x y = 1 := by unfold f_JL_compare; rw [if_pos c_1, if_neg c_2]
      exact W.iret hx hb hr (fun t ht _ => ⟨by rw [hz], ht⟩) (fun _ h => by cases h) d_JL_compare_21
    · skip
      rw [lg_cmp_eq] at c_2
      refine lv_iconst (v := 0) hx hb d_JL_compare_16 (by decide) ?_
      refine lv_goto (tgt := 21) hx hb d_JL_compare_17 (by decide) ?_
      have hz : f_JL_compare x y = 0 := by unfold f_JL_compare; rw [if_pos c_1, if_pos c_2]
      exact W.iret hx hb hr (fun t ht _ => ⟨by rw [hz], ht⟩) (fun _ h => by cases h) d_JL_compare_21
  · skip
    rw [lg_cmp_ge] at c_1
    refine lv_iconst (v := (-1)) hx hb d_JL_compare_6 (by decide) ?_
    refine lv_goto (tgt := 21) hx hb d_JL_compare_7 (by decide) ?_
    have hz : f_JL_compare x y = (-1) := by unfold f_JL_compare; rw [if_neg c_1]
    exact W.iret hx hb hr (fun t ht _ => ⟨by rw [hz], ht⟩) (fun _ h => by cases h) d_JL_compare_21
def f_X_isTooFar (x : Int64) : Int32 := if x ≤ (-1000000000000000000) then 1 else if x < 1000000000000000000 then 0 else 1
set_option maxHeartbeats 4000000 in
set_option maxRecDepth 100000 in
theorem k_X_isTooFar (l : Launch) (x : Int64) : Met l y_X_isTooFar w_X_isTooFar ({ frames := 0, cells := 0, slots := 0, locals := 0 }) (va_Pc [.long x] (fun _ => True)) (k2_QcV (.int (f_X_isTooFar x))) 0 0 (fun _ => False) := by
  refine Met.ofW (cc := c_X_isTooFar) (maxL := 2) (ret := (Option.some Jvm.ClassFile.FieldType.boolean)) (by decide) rfl ?_
  intro p e s m args below meth c s₁ B hml hv
  obtain ⟨rfl, -⟩ := hv
  have hx := B.exec
  have hb := B.bytes
  have hr := B.returns
  have hts := atoms_spec (ws := w_X_isTooFar) B.pre
  have hg : ∀ w ∈ WG, w.before _ s = true := fun w h => hts w (List.mem_cons_of_mem _ h)
  have hown : s.vm.findClass R_X = some m.cls := findClass_of_methodNamed B.named
  have hlocks := B.notSynchronized
  have hl := lv_entry ([.long x]) (n := 2) (Nat.le_of_ble_eq_true rfl)
  rw [lg_entry_eq]
  generalize (lg_sl ([.long x]) ++ List.replicate (2 - (lg_sl ([.long x])).length) Slot.unset).toArray = ls at hl ⊢
  have hl : lv_has ls 2 [(0, .long x)] := hl
  refine lv_lload_n hx hb d_X_isTooFar_0 rfl (lv_at hl 0 rfl) ?_
  refine lv_ldc2 (v := (-1000000000000000000)) hx hb hown (hg _ wg_222) d_X_isTooFar_1 ?_
  refine W.lcmp hx hb d_X_isTooFar_4 ?_
  refine lv_if_le (tgt := 16) hx hb d_X_isTooFar_5 (by decide) (fun c_1 => ?_) (fun c_1 => ?_)
  · skip
    rw [lg_cmp_le] at c_1
    refine lv_iconst (v := 1) hx hb d_X_isTooFar_16 (by decide) ?_
    refine lv_goto (tgt := 21) hx hb d_X_isTooFar_17 (by decide) ?_
    have hz : f_X_isTooFar x = 1 := by unfold f_X_isTooFar; rw [if_pos c_1]
    exact W.zret hx hb hr rfl (fun t ht _ => ⟨by rw [hz], ht⟩) (fun _ h => by cases h) d_X_isTooFar_21
  · skip
    rw [lg_cmp_le] at c_1
    refine lv_lload_n hx hb d_X_isTooFar_8 rfl (lv_at hl 0 rfl) ?_
    refine lv_ldc2 (v := 1000000000000000000) hx hb hown (hg _ wg_223) d_X_isTooFar_9 ?_
    refine W.lcmp hx hb d_X_isTooFar_12 ?_
    refine lv_if_lt (tgt := 20) hx hb d_X_isTooFar_13 (by decide) (fun c_2 => ?_) (fun c_2 => ?_)
    · skip
      rw [lg_cmp_lt] at c_2
      refine lv_iconst (v := 0) hx hb d_X_isTooFar_20 (by decide) ?_
      have hz : f_X_isTooFar x = 0 := by unfold f_X_isTooFar; rw [if_neg c_1, if_pos c_2]
      exact W.zret hx hb hr rfl (fun t ht _ => ⟨by rw [hz], ht⟩) (fun _ h => by cases h) d_X_isTooFar_21
    · skip
      rw [lg_cmp_lt] at c_2
      refine lv_iconst (v := 1) hx hb d_X_isTooFar_16 (by decide) ?_
      refine lv_goto (tgt := 21) hx hb d_X_isTooFar_17 (by decide) ?_
      have hz : f_X_isTooFar x = 1 := by unfold f_X_isTooFar; rw [if_neg c_1, if_neg c_2]
      exact W.zret hx hb hr rfl (fun t ht _ => ⟨by rw [hz], ht⟩) (fun _ h => by cases h) d_X_isTooFar_21
def f_T_isInside (x : Int64) : Int32 := if x < (-10000) then 0 else if 10000 < x then 0 else 1
set_option maxHeartbeats 4000000 in
set_option maxRecDepth 100000 in
theorem k_T_isInside (l : Launch) (x : Int64) : Met l y_T_isInside w_T_isInside ({ frames := 0, cells := 0, slots := 0, locals := 0 }) (va_Pc [.long x] (fun _ => True)) (k2_QcV (.int (f_T_isInside x))) 0 0 (fun _ => False) := by
  refine Met.ofW (cc := c_T_isInside) (maxL := 2) (ret := (Option.some Jvm.ClassFile.FieldType.boolean)) (by decide) rfl ?_
  intro p e s m args below meth c s₁ B hml hv
  obtain ⟨rfl, -⟩ := hv
  have hx := B.exec
  have hb := B.bytes
  have hr := B.returns
  have hts := atoms_spec (ws := w_T_isInside) B.pre
  have hg : ∀ w ∈ WG, w.before _ s = true := fun w h => hts w (List.mem_cons_of_mem _ h)
  have hown : s.vm.findClass R_T = some m.cls := findClass_of_methodNamed B.named
  have hlocks := B.notSynchronized
  have hl := lv_entry ([.long x]) (n := 2) (Nat.le_of_ble_eq_true rfl)
  rw [lg_entry_eq]
  generalize (lg_sl ([.long x]) ++ List.replicate (2 - (lg_sl ([.long x])).length) Slot.unset).toArray = ls at hl ⊢
  have hl : lv_has ls 2 [(0, .long x)] := hl
  refine lv_lload_n hx hb d_T_isInside_0 rfl (lv_at hl 0 rfl) ?_
  refine lv_ldc2 (v := (-10000)) hx hb hown (hg _ wg_129) d_T_isInside_1 ?_
  refine W.lcmp hx hb d_T_isInside_4 ?_
  refine lv_if_lt (tgt := 20) hx hb d_T_isInside_5 (by decide) (fun c_1 => ?_) (fun c_1 => ?_)
  · skip
    rw [lg_cmp_lt] at c_1
    refine lv_iconst (v := 0) hx hb d_T_isInside_20 (by decide) ?_
    have hz : f_T_isInside x = 0 := by unfold f_T_isInside; rw [if_pos c_1]
    exact W.zret hx hb hr rfl (fun t ht _ => ⟨by rw [hz], ht⟩) (fun _ h => by cases h) d_T_isInside_21
  · skip
    rw [lg_cmp_lt] at c_1
    refine lv_lload_n hx hb d_T_isInside_8 rfl (lv_at hl 0 rfl) ?_
    refine lv_ldc2 (v := 10000) hx hb hown (hg _ wg_130) d_T_isInside_9 ?_
    refine W.lcmp hx hb d_T_isInside_12 ?_
    refine lv_if_gt (tgt := 20) hx hb d_T_isInside_13 (by decide) (fun c_2 => ?_) (fun c_2 => ?_)
    · skip
      rw [lg_cmp_gt] at c_2
      refine lv_iconst (v := 0) hx hb d_T_isInside_20 (by decide) ?_
      have hz : f_T_isInside x = 0 := by unfold f_T_isInside; rw [if_neg c_1, if_pos c_2]
      exact W.zret hx hb hr rfl (fun t ht _ => ⟨by rw [hz], ht⟩) (fun _ h => by cases h) d_T_isInside_21
    · skip
      rw [lg_cmp_gt] at c_2
      refine lv_iconst (v := 1) hx hb d_T_isInside_16 (by decide) ?_
      refine lv_goto (tgt := 21) hx hb d_T_isInside_17 (by decide) ?_
      have hz : f_T_isInside x = 1 := by unfold f_T_isInside; rw [if_neg c_1, if_neg c_2]
      exact W.zret hx hb hr rfl (fun t ht _ => ⟨by rw [hz], ht⟩) (fun _ h => by cases h) d_T_isInside_21
def f_X_isShareOf (u : Int32) (v : Int32) : Int32 := if u = 3 then if v = 2 then 1 else if u = 4 then if v = 1 then 1 else 0 else 0 else if u = 4 then if v = 1 then 1 else 0 else 0
set_option maxHeartbeats 4000000 in
set_option maxRecDepth 100000 in
theorem k_X_isShareOf (l : Launch) (u : Int32) (v : Int32) : Met l y_X_isShareOf w_X_isShareOf ({ frames := 0, cells := 0, slots := 0, locals := 0 }) (va_Pc [.int u, .int v] (fun _ => True)) (k2_QcV (.int (f_X_isShareOf u v))) 0 0 (fun _ => False) := by
  refine Met.ofW (cc := c_X_isShareOf) (maxL := 2) (ret := (Option.some Jvm.ClassFile.FieldType.boolean)) (by decide) rfl ?_
  intro p e s m args below meth c s₁ B hml hv
  obtain ⟨rfl, -⟩ := hv
  have hx := B.exec
  have hb := B.bytes
  have hr := B.returns
  have hts := atoms_spec (ws := w_X_isShareOf) B.pre
  have hg : ∀ w ∈ WG, w.before _ s = true := fun w h => hts w (List.mem_cons_of_mem _ h)
  have hown : s.vm.findClass R_X = some m.cls := findClass_of_methodNamed B.named
  have hlocks := B.notSynchronized
  have hl := lv_entry ([.int u, .int v]) (n := 2) (Nat.le_of_ble_eq_true rfl)
  rw [lg_entry_eq]
  generalize (lg_sl ([.int u, .int v]) ++ List.replicate (2 - (lg_sl ([.int u, .int v])).length) Slot.unset).toArray = ls at hl ⊢
  have hl : lv_has ls 2 [(0, .int u), (1, .int v)] := hl
  refine lv_iload_n hx hb d_X_isShareOf_0 rfl (lv_at hl 0 rfl) ?_
  refine lv_iconst (v := 3) hx hb d_X_isShareOf_1 (by decide) ?_
  refine lv_icmp_ne (tgt := 10) hx hb d_X_isShareOf_2 (by decide) (fun c_1 => ?_) (fun c_1 => ?_)
  · skip
    refine lv_iload_n hx hb d_X_isShareOf_10 rfl (lv_at hl 0 rfl) ?_
    refine lv_iconst (v := 4) hx hb d_X_isShareOf_11 (by decide) ?_
    refine lv_icmp_ne (tgt := 24) hx hb d_X_isShareOf_12 (by decide) (fun c_2 => ?_) (fun c_2 => ?_)
    · skip
      refine lv_iconst (v := 0) hx hb d_X_isShareOf_24 (by decide) ?_
      have hz : f_X_isShareOf u v = 0 := by unfold f_X_isShareOf; rw [if_neg c_1, if_neg c_2]
      exact W.zret hx hb hr rfl (fun t ht _ => ⟨by rw [hz], ht⟩) (fun _ h => by cases h) d_X_isShareOf_25
    · skip
      refine lv_iload_n hx hb d_X_isShareOf_15 rfl (lv_at hl 1 rfl) ?_
      refine lv_iconst (v := 1) hx hb d_X_isShareOf_16 (by decide) ?_
      refine lv_icmp_ne (tgt := 24) hx hb d_X_isShareOf_17 (by decide) (fun c_3 => ?_) (fun c_3 => ?_)
      · skip
        refine lv_iconst (v := 0) hx hb d_X_isShareOf_24 (by decide) ?_
        have hz : f_X_isShareOf u v = 0 := by unfold f_X_isShareOf; rw [if_neg c_1, if_pos c_2, if_neg c_3]
        exact W.zret hx hb hr rfl (fun t ht _ => ⟨by rw [hz], ht⟩) (fun _ h => by cases h) d_X_isShareOf_25
      · skip
        refine lv_iconst (v := 1) hx hb d_X_isShareOf_20 (by decide) ?_
        refine lv_goto (tgt := 25) hx hb d_X_isShareOf_21 (by decide) ?_
        have hz : f_X_isShareOf u v = 1 := by unfold f_X_isShareOf; rw [if_neg c_1, if_pos c_2, if_pos c_3]
        exact W.zret hx hb hr rfl (fun t ht _ => ⟨by rw [hz], ht⟩) (fun _ h => by cases h) d_X_isShareOf_25
  · skip
    refine lv_iload_n hx hb d_X_isShareOf_5 rfl (lv_at hl 1 rfl) ?_
    refine lv_iconst (v := 2) hx hb d_X_isShareOf_6 (by decide) ?_
    refine lv_icmp_eq (tgt := 20) hx hb d_X_isShareOf_7 (by decide) (fun c_4 => ?_) (fun c_4 => ?_)
    · skip
      refine lv_iconst (v := 1) hx hb d_X_isShareOf_20 (by decide) ?_
      refine lv_goto (tgt := 25) hx hb d_X_isShareOf_21 (by decide) ?_
      have hz : f_X_isShareOf u v = 1 := by unfold f_X_isShareOf; rw [if_pos c_1, if_pos c_4]
      exact W.zret hx hb hr rfl (fun t ht _ => ⟨by rw [hz], ht⟩) (fun _ h => by cases h) d_X_isShareOf_25
    · skip
      refine lv_iload_n hx hb d_X_isShareOf_10 rfl (lv_at hl 0 rfl) ?_
      refine lv_iconst (v := 4) hx hb d_X_isShareOf_11 (by decide) ?_
      refine lv_icmp_ne (tgt := 24) hx hb d_X_isShareOf_12 (by decide) (fun c_5 => ?_) (fun c_5 => ?_)
      · skip
        refine lv_iconst (v := 0) hx hb d_X_isShareOf_24 (by decide) ?_
        have hz : f_X_isShareOf u v = 0 := by unfold f_X_isShareOf; rw [if_pos c_1, if_neg c_4, if_neg c_5]
        exact W.zret hx hb hr rfl (fun t ht _ => ⟨by rw [hz], ht⟩) (fun _ h => by cases h) d_X_isShareOf_25
      · skip
        refine lv_iload_n hx hb d_X_isShareOf_15 rfl (lv_at hl 1 rfl) ?_
        refine lv_iconst (v := 1) hx hb d_X_isShareOf_16 (by decide) ?_
        refine lv_icmp_ne (tgt := 24) hx hb d_X_isShareOf_17 (by decide) (fun c_6 => ?_) (fun c_6 => ?_)
        · skip
          refine lv_iconst (v := 0) hx hb d_X_isShareOf_24 (by decide) ?_
          have hz : f_X_isShareOf u v = 0 := by unfold f_X_isShareOf; rw [if_pos c_1, if_neg c_4, if_pos c_5, if_neg c_6]
          exact W.zret hx hb hr rfl (fun t ht _ => ⟨by rw [hz], ht⟩) (fun _ h => by cases h) d_X_isShareOf_25
        · skip
          refine lv_iconst (v := 1) hx hb d_X_isShareOf_20 (by decide) ?_
          refine lv_goto (tgt := 25) hx hb d_X_isShareOf_21 (by decide) ?_
          have hz : f_X_isShareOf u v = 1 := by unfold f_X_isShareOf; rw [if_pos c_1, if_neg c_4, if_pos c_5, if_pos c_6]
          exact W.zret hx hb hr rfl (fun t ht _ => ⟨by rw [hz], ht⟩) (fun _ h => by cases h) d_X_isShareOf_25
def f_X_unitOfProduct (u : Int32) (v : Int32) : Int32 := if u = 0 then v else if (f_X_isShareOf u v) = 0 then if v = 0 then u else if (f_X_isShareOf v u) = 0 then (-1) else u else v
set_option maxHeartbeats 4000000 in
set_option maxRecDepth 100000 in
theorem k_X_unitOfProduct (l : Launch) (u : Int32) (v : Int32) : Met l y_X_unitOfProduct w_X_unitOfProduct ({ frames := 1, cells := 0, slots := 0, locals := 21 }) (va_Pc [.int u, .int v] (fun _ => True)) (k2_QcV (.int (f_X_unitOfProduct u v))) 0 0 (fun _ => False) := by
  refine Met.ofW (cc := c_X_unitOfProduct) (maxL := 2) (ret := (Option.some Jvm.ClassFile.FieldType.int)) (by decide) rfl ?_
  intro p e s m args below meth c s₁ B hml hv
  obtain ⟨rfl, -⟩ := hv
  have hx := B.exec
  have hb := B.bytes
  have hr := B.returns
  have hts := atoms_spec (ws := w_X_unitOfProduct) B.pre
  have hg : ∀ w ∈ WG, w.before _ s = true := fun w h => hts w (List.mem_cons_of_mem _ h)
  have hown : s.vm.findClass R_X = some m.cls := findClass_of_methodNamed B.named
  have hlocks := B.notSynchronized
  have hl := lv_entry ([.int u, .int v]) (n := 2) (Nat.le_of_ble_eq_true rfl)
  rw [lg_entry_eq]
  generalize (lg_sl ([.int u, .int v]) ++ List.replicate (2 - (lg_sl ([.int u, .int v])).length) Slot.unset).toArray = ls at hl ⊢
  have hl : lv_has ls 2 [(0, .int u), (1, .int v)] := hl
  refine lv_iload_n hx hb d_X_unitOfProduct_0 rfl (lv_at hl 0 rfl) ?_
  refine lv_if_eq (tgt := 12) hx hb d_X_unitOfProduct_1 (by decide) (fun c_1 => ?_) (fun c_1 => ?_)
  · skip
    refine lv_iload_n hx hb d_X_unitOfProduct_12 rfl (lv_at hl 1 rfl) ?_
    have hz : f_X_unitOfProduct u v = v := by unfold f_X_unitOfProduct; rw [if_pos c_1]
    exact W.iret hx hb hr (fun t ht _ => ⟨by rw [hz], ht⟩) (fun _ h => by cases h) d_X_unitOfProduct_13
  · skip
    refine lv_iload_n hx hb d_X_unitOfProduct_4 rfl (lv_at hl 0 rfl) ?_
    refine lv_iload_n hx hb d_X_unitOfProduct_5 rfl (lv_at hl 1 rfl) ?_
    refine W.callV (W.runS (As := [.int u, .int v]) (rest := []) ⟨hx, hb, hml, hown, hg⟩ (k_X_isShareOf l u v) (q_S 2 hg wg_87 wg_85 wg_86 wg_13 rfl rfl (by decide +kernel) ⟨Nat.le_of_ble_eq_true rfl, Nat.le_of_ble_eq_true rfl⟩) ⟨nw_blind, fun _ _ _ => ⟨rfl, trivial⟩⟩ rfl rfl hl.1 rfl (lv_room (Nat.le_of_ble_eq_true rfl)) d_X_unitOfProduct_6 ⟨Nat.le_of_ble_eq_true rfl, Nat.le_of_ble_eq_true rfl⟩) ?_
    refine W.eq (g2 := F0 m 9 ls (.int (f_X_isShareOf u v) :: [])) rfl ?_
    refine lv_if_eq (tgt := 14) hx hb d_X_unitOfProduct_9 (by decide) (fun c_2 => ?_) (fun c_2 => ?_)
    · skip
      refine lv_iload_n hx hb d_X_unitOfProduct_14 rfl (lv_at hl 1 rfl) ?_
      refine lv_if_eq (tgt := 26) hx hb d_X_unitOfProduct_15 (by decide) (fun c_3 => ?_) (fun c_3 => ?_)
      · skip
        refine lv_iload_n hx hb d_X_unitOfProduct_26 rfl (lv_at hl 0 rfl) ?_
        have hz : f_X_unitOfProduct u v = u := by unfold f_X_unitOfProduct; rw [if_neg c_1, if_pos c_2, if_pos c_3]
        exact W.iret hx hb hr (fun t ht _ => ⟨by rw [hz], ht⟩) (fun _ h => by cases h) d_X_unitOfProduct_27
      · skip
        refine lv_iload_n hx hb d_X_unitOfProduct_18 rfl (lv_at hl 1 rfl) ?_
        refine lv_iload_n hx hb d_X_unitOfProduct_19 rfl (lv_at hl 0 rfl) ?_
        refine W.callV (W.runS (As := [.int v, .int u]) (rest := []) ⟨hx, hb, hml, hown, hg⟩ (k_X_isShareOf l v u) (q_S 2 hg wg_87 wg_85 wg_86 wg_13 rfl rfl (by decide +kernel) ⟨Nat.le_of_ble_eq_true rfl, Nat.le_of_ble_eq_true rfl⟩) ⟨nw_blind, fun _ _ _ => ⟨rfl, trivial⟩⟩ rfl rfl hl.1 rfl (lv_room (Nat.le_of_ble_eq_true rfl)) d_X_unitOfProduct_20 ⟨Nat.le_of_ble_eq_true rfl, Nat.le_of_ble_eq_true rfl⟩) ?_
        refine W.eq (g2 := F0 m 23 ls (.int (f_X_isShareOf v u) :: [])) rfl ?_
        refine lv_if_eq (tgt := 28) hx hb d_X_unitOfProduct_23 (by decide) (fun c_4 => ?_) (fun c_4 => ?_)
        · skip
          refine lv_iconst (v := (-1)) hx hb d_X_unitOfProduct_28 (by decide) ?_
          have hz : f_X_unitOfProduct u v = (-1) := by unfold f_X_unitOfProduct; rw [if_neg c_1, if_pos c_2, if_neg c_3, if_pos c_4]
          exact W.iret hx hb hr (fun t ht _ => ⟨by rw [hz], ht⟩) (fun _ h => by cases h) d_X_unitOfProduct_29
        · skip
          refine lv_iload_n hx hb d_X_unitOfProduct_26 rfl (lv_at hl 0 rfl) ?_
          have hz : f_X_unitOfProduct u v = u := by unfold f_X_unitOfProduct; rw [if_neg c_1, if_pos c_2, if_neg c_3, if_neg c_4]
          exact W.iret hx hb hr (fun t ht _ => ⟨by rw [hz], ht⟩) (fun _ h => by cases h) d_X_unitOfProduct_27
    · skip
      refine lv_iload_n hx hb d_X_unitOfProduct_12 rfl (lv_at hl 1 rfl) ?_
      have hz : f_X_unitOfProduct u v = v := by unfold f_X_unitOfProduct; rw [if_neg c_1, if_neg c_2]
      exact W.iret hx hb hr (fun t ht _ => ⟨by rw [hz], ht⟩) (fun _ h => by cases h) d_X_unitOfProduct_13
def f_X_unitOfQuotient (u : Int32) (v : Int32) : Int32 := if u = v then 0 else if v = 0 then u else if (f_X_isShareOf v u) = 0 then (-1) else u
set_option maxHeartbeats 4000000 in
set_option maxRecDepth 100000 in
theorem k_X_unitOfQuotient (l : Launch) (u : Int32) (v : Int32) : Met l y_X_unitOfQuotient w_X_unitOfQuotient ({ frames := 1, cells := 0, slots := 0, locals := 21 }) (va_Pc [.int u, .int v] (fun _ => True)) (k2_QcV (.int (f_X_unitOfQuotient u v))) 0 0 (fun _ => False) := by
  refine Met.ofW (cc := c_X_unitOfQuotient) (maxL := 2) (ret := (Option.some Jvm.ClassFile.FieldType.int)) (by decide) rfl ?_
  intro p e s m args below meth c s₁ B hml hv
  obtain ⟨rfl, -⟩ := hv
  have hx := B.exec
  have hb := B.bytes
  have hr := B.returns
  have hts := atoms_spec (ws := w_X_unitOfQuotient) B.pre
  have hg : ∀ w ∈ WG, w.before _ s = true := fun w h => hts w (List.mem_cons_of_mem _ h)
  have hown : s.vm.findClass R_X = some m.cls := findClass_of_methodNamed B.named
  have hlocks := B.notSynchronized
  have hl := lv_entry ([.int u, .int v]) (n := 2) (Nat.le_of_ble_eq_true rfl)
  rw [lg_entry_eq]
  generalize (lg_sl ([.int u, .int v]) ++ List.replicate (2 - (lg_sl ([.int u, .int v])).length) Slot.unset).toArray = ls at hl ⊢
  have hl : lv_has ls 2 [(0, .int u), (1, .int v)] := hl
  refine lv_iload_n hx hb d_X_unitOfQuotient_0 rfl (lv_at hl 0 rfl) ?_
  refine lv_iload_n hx hb d_X_unitOfQuotient_1 rfl (lv_at hl 1 rfl) ?_
  refine lv_icmp_ne (tgt := 7) hx hb d_X_unitOfQuotient_2 (by decide) (fun c_1 => ?_) (fun c_1 => ?_)
  · skip
    refine lv_iload_n hx hb d_X_unitOfQuotient_7 rfl (lv_at hl 1 rfl) ?_
    refine lv_if_eq (tgt := 19) hx hb d_X_unitOfQuotient_8 (by decide) (fun c_2 => ?_) (fun c_2 => ?_)
    · skip
      refine lv_iload_n hx hb d_X_unitOfQuotient_19 rfl (lv_at hl 0 rfl) ?_
      have hz : f_X_unitOfQuotient u v = u := by unfold f_X_unitOfQuotient; rw [if_neg c_1, if_pos c_2]
      exact W.iret hx hb hr (fun t ht _ => ⟨by rw [hz], ht⟩) (fun _ h => by cases h) d_X_unitOfQuotient_20
    · skip
      refine lv_iload_n hx hb d_X_unitOfQuotient_11 rfl (lv_at hl 1 rfl) ?_
      refine lv_iload_n hx hb d_X_unitOfQuotient_12 rfl (lv_at hl 0 rfl) ?_
      refine W.callV (W.runS (As := [.int v, .int u]) (rest := []) ⟨hx, hb, hml, hown, hg⟩ (k_X_isShareOf l v u) (q_S 2 hg wg_87 wg_85 wg_86 wg_13 rfl rfl (by decide +kernel) ⟨Nat.le_of_ble_eq_true rfl, Nat.le_of_ble_eq_true rfl⟩) ⟨nw_blind, fun _ _ _ => ⟨rfl, trivial⟩⟩ rfl rfl hl.1 rfl (lv_room (Nat.le_of_ble_eq_true rfl)) d_X_unitOfQuotient_13 ⟨Nat.le_of_ble_eq_true rfl, Nat.le_of_ble_eq_true rfl⟩) ?_
      refine W.eq (g2 := F0 m 16 ls (.int (f_X_isShareOf v u) :: [])) rfl ?_
      refine lv_if_eq (tgt := 21) hx hb d_X_unitOfQuotient_16 (by decide) (fun c_3 => ?_) (fun c_3 => ?_)
      · skip
        refine lv_iconst (v := (-1)) hx hb d_X_unitOfQuotient_21 (by decide) ?_
        have hz : f_X_unitOfQuotient u v = (-1) := by unfold f_X_unitOfQuotient; rw [if_neg c_1, if_neg c_2, if_pos c_3]
        exact W.iret hx hb hr (fun t ht _ => ⟨by rw [hz], ht⟩) (fun _ h => by cases h) d_X_unitOfQuotient_22
      · skip
        refine lv_iload_n hx hb d_X_unitOfQuotient_19 rfl (lv_at hl 0 rfl) ?_
        have hz : f_X_unitOfQuotient u v = u := by unfold f_X_unitOfQuotient; rw [if_neg c_1, if_neg c_2, if_neg c_3]
        exact W.iret hx hb hr (fun t ht _ => ⟨by rw [hz], ht⟩) (fun _ h => by cases h) d_X_unitOfQuotient_20
  · skip
    refine lv_iconst (v := 0) hx hb d_X_unitOfQuotient_5 (by decide) ?_
    have hz : f_X_unitOfQuotient u v = 0 := by unfold f_X_unitOfQuotient; rw [if_pos c_1]
    exact W.iret hx hb hr (fun t ht _ => ⟨by rw [hz], ht⟩) (fun _ h => by cases h) d_X_unitOfQuotient_6
theorem nz_of {y : Int64} (h : 1 ≤ y) : ¬ y = 0 := fun e => by subst e; exact absurd h (by decide)
def f_X_quotientDown (x : Int64) (d : Int64) : Int64 := if 1 ≤ d then (f_JM_floorDiv x d) else 0
set_option maxHeartbeats 4000000 in
set_option maxRecDepth 100000 in
theorem k_X_quotientDown (l : Launch) (x : Int64) (d : Int64) : Met l y_X_quotientDown w_X_quotientDown ({ frames := 1, cells := 0, slots := 0, locals := 25 }) (va_Pc [.long x, .long d] (fun _ => True)) (k2_QcV (.long (f_X_quotientDown x d))) 0 0 (fun _ => False) := by
  refine Met.ofW (cc := c_X_quotientDown) (maxL := 4) (ret := (Option.some Jvm.ClassFile.FieldType.long)) (by decide) rfl ?_
  intro p e s m args below meth c s₁ B hml hv
  obtain ⟨rfl, -⟩ := hv
  have hx := B.exec
  have hb := B.bytes
  have hr := B.returns
  have hts := atoms_spec (ws := w_X_quotientDown) B.pre
  have hg : ∀ w ∈ WG, w.before _ s = true := fun w h => hts w (List.mem_cons_of_mem _ h)
  have hown : s.vm.findClass R_X = some m.cls := findClass_of_methodNamed B.named
  have hlocks := B.notSynchronized
  have hl := lv_entry ([.long x, .long d]) (n := 4) (Nat.le_of_ble_eq_true rfl)
  rw [lg_entry_eq]
  generalize (lg_sl ([.long x, .long d]) ++ List.replicate (4 - (lg_sl ([.long x, .long d])).length) Slot.unset).toArray = ls at hl ⊢
  have hl : lv_has ls 4 [(0, .long x), (2, .long d)] := hl
  refine lv_lload_n hx hb d_X_quotientDown_0 rfl (lv_at hl 1 rfl) ?_
  refine lv_lconst (v := 1) hx hb d_X_quotientDown_1 (by decide) ?_
  refine W.lcmp hx hb d_X_quotientDown_2 ?_
  refine lv_if_ge (tgt := 10) hx hb d_X_quotientDown_3 (by decide) (fun c_1 => ?_) (fun c_1 => ?_)
  · skip
    rw [lg_cmp_ge] at c_1
    refine lv_lload_n hx hb d_X_quotientDown_10 rfl (lv_at hl 0 rfl) ?_
    refine lv_lload_n hx hb d_X_quotientDown_11 rfl (lv_at hl 1 rfl) ?_
    refine W.callV (W.runS (As := [.long x, .long d]) (rest := []) ⟨hx, hb, hml, hown, hg⟩ (k_JM_floorDiv l x d (nz_of c_1)) (q_S 2 hg wg_98 wg_96 wg_97 wg_20 rfl rfl (by decide +kernel) ⟨Nat.le_of_ble_eq_true rfl, Nat.le_of_ble_eq_true rfl⟩) ⟨nw_blind, fun _ _ _ => ⟨rfl, trivial⟩⟩ rfl rfl hl.1 rfl (lv_room (Nat.le_of_ble_eq_true rfl)) d_X_quotientDown_12 ⟨Nat.le_of_ble_eq_true rfl, Nat.le_of_ble_eq_true rfl⟩) ?_
    refine W.eq (g2 := F0 m 15 ls (.long (f_JM_floorDiv x d) :: [])) rfl ?_
    have hz : f_X_quotientDown x d = f_JM_floorDiv x d := by unfold f_X_quotientDown; rw [if_pos c_1]
    exact W.lret hx hb hr (fun t ht _ => ⟨by rw [hz], ht⟩) (fun _ h => by cases h) d_X_quotientDown_15
  · skip
    rw [lg_cmp_ge] at c_1
    refine lv_lconst (v := 0) hx hb d_X_quotientDown_6 (by decide) ?_
    refine lv_goto (tgt := 15) hx hb d_X_quotientDown_7 (by decide) ?_
    have hz : f_X_quotientDown x d = 0 := by unfold f_X_quotientDown; rw [if_neg c_1]
    exact W.lret hx hb hr (fun t ht _ => ⟨by rw [hz], ht⟩) (fun _ h => by cases h) d_X_quotientDown_15
def f_X_restOf (x : Int64) (d : Int64) : Int64 := if 1 ≤ d then (f_JM_floorMod x d) else 0
set_option maxHeartbeats 4000000 in
set_option maxRecDepth 100000 in
theorem k_X_restOf (l : Launch) (x : Int64) (d : Int64) : Met l y_X_restOf w_X_restOf ({ frames := 1, cells := 0, slots := 0, locals := 25 }) (va_Pc [.long x, .long d] (fun _ => True)) (k2_QcV (.long (f_X_restOf x d))) 0 0 (fun _ => False) := by
  refine Met.ofW (cc := c_X_restOf) (maxL := 4) (ret := (Option.some Jvm.ClassFile.FieldType.long)) (by decide) rfl ?_
  intro p e s m args below meth c s₁ B hml hv
  obtain ⟨rfl, -⟩ := hv
  have hx := B.exec
  have hb := B.bytes
  have hr := B.returns
  have hts := atoms_spec (ws := w_X_restOf) B.pre
  have hg : ∀ w ∈ WG, w.before _ s = true := fun w h => hts w (List.mem_cons_of_mem _ h)
  have hown : s.vm.findClass R_X = some m.cls := findClass_of_methodNamed B.named
  have hlocks := B.notSynchronized
  have hl := lv_entry ([.long x, .long d]) (n := 4) (Nat.le_of_ble_eq_true rfl)
  rw [lg_entry_eq]
  generalize (lg_sl ([.long x, .long d]) ++ List.replicate (4 - (lg_sl ([.long x, .long d])).length) Slot.unset).toArray = ls at hl ⊢
  have hl : lv_has ls 4 [(0, .long x), (2, .long d)] := hl
  refine lv_lload_n hx hb d_X_restOf_0 rfl (lv_at hl 1 rfl) ?_
  refine lv_lconst (v := 1) hx hb d_X_restOf_1 (by decide) ?_
  refine W.lcmp hx hb d_X_restOf_2 ?_
  refine lv_if_ge (tgt := 10) hx hb d_X_restOf_3 (by decide) (fun c_1 => ?_) (fun c_1 => ?_)
  · skip
    rw [lg_cmp_ge] at c_1
    refine lv_lload_n hx hb d_X_restOf_10 rfl (lv_at hl 0 rfl) ?_
    refine lv_lload_n hx hb d_X_restOf_11 rfl (lv_at hl 1 rfl) ?_
    refine W.callV (W.runS (As := [.long x, .long d]) (rest := []) ⟨hx, hb, hml, hown, hg⟩ (k_JM_floorMod l x d (nz_of c_1)) (q_S 2 hg wg_104 wg_102 wg_103 wg_20 rfl rfl (by decide +kernel) ⟨Nat.le_of_ble_eq_true rfl, Nat.le_of_ble_eq_true rfl⟩) ⟨nw_blind, fun _ _ _ => ⟨rfl, trivial⟩⟩ rfl rfl hl.1 rfl (lv_room (Nat.le_of_ble_eq_true rfl)) d_X_restOf_12 ⟨Nat.le_of_ble_eq_true rfl, Nat.le_of_ble_eq_true rfl⟩) ?_
    refine W.eq (g2 := F0 m 15 ls (.long (f_JM_floorMod x d) :: [])) rfl ?_
    have hz : f_X_restOf x d = f_JM_floorMod x d := by unfold f_X_restOf; rw [if_pos c_1]
    exact W.lret hx hb hr (fun t ht _ => ⟨by rw [hz], ht⟩) (fun _ h => by cases h) d_X_restOf_15
  · skip
    rw [lg_cmp_ge] at c_1
    refine lv_lconst (v := 0) hx hb d_X_restOf_6 (by decide) ?_
    refine lv_goto (tgt := 15) hx hb d_X_restOf_7 (by decide) ?_
    have hz : f_X_restOf x d = 0 := by unfold f_X_restOf; rw [if_neg c_1]
    exact W.lret hx hb hr (fun t ht _ => ⟨by rw [hz], ht⟩) (fun _ h => by cases h) d_X_restOf_15
def f_X_goesUp (r : Int32) (lo : Int64) (re : Int64) (be : Int64) : Int32 := if re = 0 then 0 else if r = 1 then 1 else if r = 2 then if 0 ≤ lo then 0 else 1 else if r = 3 then if lo < 0 then 0 else 1 else if r = 4 then if (f_JL_compare (2 * re) be) < 0 then 0 else 1 else if r = 5 then if 0 < (f_JL_compare (2 * re) be) then 1 else if (f_JL_compare (2 * re) be) = 0 then if lo < 0 then 0 else 1 else 0 else if r = 6 then if 0 < (f_JL_compare (2 * re) be) then 1 else if (f_JL_compare (2 * re) be) = 0 then if (lo &&& 1) = 1 then 1 else 0 else 0 else 0
set_option maxHeartbeats 4000000 in
set_option maxRecDepth 100000 in
theorem k_X_goesUp (l : Launch) (r : Int32) (lo : Int64) (re : Int64) (be : Int64) : Met l y_X_goesUp w_X_goesUp ({ frames := 1, cells := 0, slots := 0, locals := 23 }) (va_Pc [.int r, .long lo, .long re, .long be] (fun _ => True)) (k2_QcV (.int (f_X_goesUp r lo re be))) 0 0 (fun _ => False) := by
  refine Met.ofW (cc := c_X_goesUp) (maxL := 8) (ret := (Option.some Jvm.ClassFile.FieldType.boolean)) (by decide) rfl ?_
  intro p e s m args below meth c s₁ B hml hv
  obtain ⟨rfl, -⟩ := hv
  have hx := B.exec
  have hb := B.bytes
  have hr := B.returns
  have hts := atoms_spec (ws := w_X_goesUp) B.pre
  have hg : ∀ w ∈ WG, w.before _ s = true := fun w h => hts w (List.mem_cons_of_mem _ h)
  have hown : s.vm.findClass R_X = some m.cls := findClass_of_methodNamed B.named
  have hlocks := B.notSynchronized
  have hl := lv_entry ([.int r, .long lo, .long re, .long be]) (n := 8) (Nat.le_of_ble_eq_true rfl)
  rw [lg_entry_eq]
  generalize (lg_sl ([.int r, .long lo, .long re, .long be]) ++ List.replicate (8 - (lg_sl ([.int r, .long lo, .long re, .long be])).length) Slot.unset).toArray = ls at hl ⊢
  have hl : lv_has ls 8 [(0, .int r), (1, .long lo), (3, .long re), (5, .long be)] := hl
  refine lv_lload_n hx hb d_X_goesUp_0 rfl (lv_at hl 2 rfl) ?_
  refine lv_lconst (v := 0) hx hb d_X_goesUp_1 (by decide) ?_
  refine W.lcmp hx hb d_X_goesUp_2 ?_
  refine lv_if_ne (tgt := 8) hx hb d_X_goesUp_3 (by decide) (fun c_1 => ?_) (fun c_1 => ?_)
  · skip
    rw [lg_cmp_eq] at c_1
    refine lv_ldc2 (v := 2) hx hb hown (hg _ wg_108) d_X_goesUp_8 ?_
    refine lv_lload_n hx hb d_X_goesUp_11 rfl (lv_at hl 2 rfl) ?_
    refine lv_lmul hx hb d_X_goesUp_12 ?_
    refine lv_lload hx hb d_X_goesUp_13 (lv_at hl 3 rfl) ?_
    refine W.callV (W.runS (As := [.long (2 * re), .long be]) (rest := []) ⟨hx, hb, hml, hown, hg⟩ (k_JL_compare l (2 * re) be) (q_S 2 hg wg_111 wg_109 wg_110 wg_21 rfl rfl (by decide +kernel) ⟨Nat.le_of_ble_eq_true rfl, Nat.le_of_ble_eq_true rfl⟩) ⟨nw_blind, fun _ _ _ => ⟨rfl, trivial⟩⟩ rfl rfl hl.1 rfl (lv_room (Nat.le_of_ble_eq_true rfl)) d_X_goesUp_15 ⟨Nat.le_of_ble_eq_true rfl, Nat.le_of_ble_eq_true rfl⟩) ?_
    refine W.eq (g2 := F0 m 18 ls (.int (f_JL_compare (2 * re) be) :: [])) rfl ?_
    refine lv_topi (fun v_2 ev_2 => ?_)
    refine lv_istore (lv' := [(7, .int v_2), (0, .int r), (1, .long lo), (3, .long re), (5, .long be)]) hx hb d_X_goesUp_18 hl (by decide) rfl (fun ls hl => ?_)
    refine lv_iload_n hx hb d_X_goesUp_20 rfl (lv_at hl 1 rfl) ?_
    by_cases c_3 : r = 1
    · skip
      refine lv_tableIn (off := 39) (tgt := 60) hx hb d_X_goesUp_21 (by rw [c_3]; decide) (by rw [c_3]; decide) (by rw [c_3]; rfl) (by decide) ?_
      refine lv_iconst (v := 1) hx hb d_X_goesUp_60 (by decide) ?_
      subst ev_2
      have hz : f_X_goesUp r lo re be = 1 := by unfold f_X_goesUp; rw [if_neg c_1, if_pos c_3]
      exact W.zret hx hb hr rfl (fun t ht _ => ⟨by rw [hz], ht⟩) (fun _ h => by cases h) d_X_goesUp_61
    · skip
      by_cases c_4 : r = 2
      · skip
        refine lv_tableIn (off := 41) (tgt := 62) hx hb d_X_goesUp_21 (by rw [c_4]; decide) (by rw [c_4]; decide) (by rw [c_4]; rfl) (by decide) ?_
        refine lv_lload_n hx hb d_X_goesUp_62 rfl (lv_at hl 2 rfl) ?_
        refine lv_lconst (v := 0) hx hb d_X_goesUp_63 (by decide) ?_
        refine W.lcmp hx hb d_X_goesUp_64 ?_
        refine lv_if_ge (tgt := 72) hx hb d_X_goesUp_65 (by decide) (fun c_5 => ?_) (fun c_5 => ?_)
        · skip
          rw [lg_cmp_ge] at c_5
          refine lv_iconst (v := 0) hx hb d_X_goesUp_72 (by decide) ?_
          subst ev_2
          have hz : f_X_goesUp r lo re be = 0 := by unfold f_X_goesUp; rw [if_neg c_1, if_neg c_3, if_pos c_4, if_pos c_5]
          exact W.zret hx hb hr rfl (fun t ht _ => ⟨by rw [hz], ht⟩) (fun _ h => by cases h) d_X_goesUp_73
        · skip
          rw [lg_cmp_ge] at c_5
          refine lv_iconst (v := 1) hx hb d_X_goesUp_68 (by decide) ?_
          refine lv_goto (tgt := 73) hx hb d_X_goesUp_69 (by decide) ?_
          subst ev_2
          have hz : f_X_goesUp r lo re be = 1 := by unfold f_X_goesUp; rw [if_neg c_1, if_neg c_3, if_pos c_4, if_neg c_5]
          exact W.zret hx hb hr rfl (fun t ht _ => ⟨by rw [hz], ht⟩) (fun _ h => by cases h) d_X_goesUp_73
      · skip
        by_cases c_6 : r = 3
        · skip
          refine lv_tableIn (off := 53) (tgt := 74) hx hb d_X_goesUp_21 (by rw [c_6]; decide) (by rw [c_6]; decide) (by rw [c_6]; rfl) (by decide) ?_
          refine lv_lload_n hx hb d_X_goesUp_74 rfl (lv_at hl 2 rfl) ?_
          refine lv_lconst (v := 0) hx hb d_X_goesUp_75 (by decide) ?_
          refine W.lcmp hx hb d_X_goesUp_76 ?_
          refine lv_if_lt (tgt := 84) hx hb d_X_goesUp_77 (by decide) (fun c_7 => ?_) (fun c_7 => ?_)
          · skip
            rw [lg_cmp_lt] at c_7
            refine lv_iconst (v := 0) hx hb d_X_goesUp_84 (by decide) ?_
            subst ev_2
            have hz : f_X_goesUp r lo re be = 0 := by unfold f_X_goesUp; rw [if_neg c_1, if_neg c_3, if_neg c_4, if_pos c_6, if_pos c_7]
            exact W.zret hx hb hr rfl (fun t ht _ => ⟨by rw [hz], ht⟩) (fun _ h => by cases h) d_X_goesUp_85
          · skip
            rw [lg_cmp_lt] at c_7
            refine lv_iconst (v := 1) hx hb d_X_goesUp_80 (by decide) ?_
            refine lv_goto (tgt := 85) hx hb d_X_goesUp_81 (by decide) ?_
            subst ev_2
            have hz : f_X_goesUp r lo re be = 1 := by unfold f_X_goesUp; rw [if_neg c_1, if_neg c_3, if_neg c_4, if_pos c_6, if_neg c_7]
            exact W.zret hx hb hr rfl (fun t ht _ => ⟨by rw [hz], ht⟩) (fun _ h => by cases h) d_X_goesUp_85
        · skip
          by_cases c_8 : r = 4
          · skip
            refine lv_tableIn (off := 65) (tgt := 86) hx hb d_X_goesUp_21 (by rw [c_8]; decide) (by rw [c_8]; decide) (by rw [c_8]; rfl) (by decide) ?_
            refine lv_iload hx hb d_X_goesUp_86 (lv_at hl 0 rfl) ?_
            refine lv_if_lt (tgt := 95) hx hb d_X_goesUp_88 (by decide) (fun c_9 => ?_) (fun c_9 => ?_)
            · skip
              refine lv_iconst (v := 0) hx hb d_X_goesUp_95 (by decide) ?_
              subst ev_2
              have hz : f_X_goesUp r lo re be = 0 := by unfold f_X_goesUp; rw [if_neg c_1, if_neg c_3, if_neg c_4, if_neg c_6, if_pos c_8, if_pos c_9]
              exact W.zret hx hb hr rfl (fun t ht _ => ⟨by rw [hz], ht⟩) (fun _ h => by cases h) d_X_goesUp_96
            · skip
              refine lv_iconst (v := 1) hx hb d_X_goesUp_91 (by decide) ?_
              refine lv_goto (tgt := 96) hx hb d_X_goesUp_92 (by decide) ?_
              subst ev_2
              have hz : f_X_goesUp r lo re be = 1 := by unfold f_X_goesUp; rw [if_neg c_1, if_neg c_3, if_neg c_4, if_neg c_6, if_pos c_8, if_neg c_9]
              exact W.zret hx hb hr rfl (fun t ht _ => ⟨by rw [hz], ht⟩) (fun _ h => by cases h) d_X_goesUp_96
          · skip
            by_cases c_10 : r = 5
            · skip
              refine lv_tableIn (off := 76) (tgt := 97) hx hb d_X_goesUp_21 (by rw [c_10]; decide) (by rw [c_10]; decide) (by rw [c_10]; rfl) (by decide) ?_
              refine lv_iload hx hb d_X_goesUp_97 (lv_at hl 0 rfl) ?_
              refine lv_if_gt (tgt := 113) hx hb d_X_goesUp_99 (by decide) (fun c_11 => ?_) (fun c_11 => ?_)
              · skip
                refine lv_iconst (v := 1) hx hb d_X_goesUp_113 (by decide) ?_
                refine lv_goto (tgt := 118) hx hb d_X_goesUp_114 (by decide) ?_
                subst ev_2
                have hz : f_X_goesUp r lo re be = 1 := by unfold f_X_goesUp; rw [if_neg c_1, if_neg c_3, if_neg c_4, if_neg c_6, if_neg c_8, if_pos c_10, if_pos c_11]
                exact W.zret hx hb hr rfl (fun t ht _ => ⟨by rw [hz], ht⟩) (fun _ h => by cases h) d_X_goesUp_118
              · skip
                refine lv_iload hx hb d_X_goesUp_102 (lv_at hl 0 rfl) ?_
                refine lv_if_ne (tgt := 117) hx hb d_X_goesUp_104 (by decide) (fun c_12 => ?_) (fun c_12 => ?_)
                · skip
                  refine lv_iconst (v := 0) hx hb d_X_goesUp_117 (by decide) ?_
                  subst ev_2
                  have hz : f_X_goesUp r lo re be = 0 := by unfold f_X_goesUp; rw [if_neg c_1, if_neg c_3, if_neg c_4, if_neg c_6, if_neg c_8, if_pos c_10, if_neg c_11, if_neg c_12]
                  exact W.zret hx hb hr rfl (fun t ht _ => ⟨by rw [hz], ht⟩) (fun _ h => by cases h) d_X_goesUp_118
                · skip
                  refine lv_lload_n hx hb d_X_goesUp_107 rfl (lv_at hl 2 rfl) ?_
                  refine lv_lconst (v := 0) hx hb d_X_goesUp_108 (by decide) ?_
                  refine W.lcmp hx hb d_X_goesUp_109 ?_
                  refine lv_if_lt (tgt := 117) hx hb d_X_goesUp_110 (by decide) (fun c_13 => ?_) (fun c_13 => ?_)
                  · skip
                    rw [lg_cmp_lt] at c_13
                    refine lv_iconst (v := 0) hx hb d_X_goesUp_117 (by decide) ?_
                    subst ev_2
                    have hz : f_X_goesUp r lo re be = 0 := by unfold f_X_goesUp; rw [if_neg c_1, if_neg c_3, if_neg c_4, if_neg c_6, if_neg c_8, if_pos c_10, if_neg c_11, if_pos c_12, if_pos c_13]
                    exact W.zret hx hb hr rfl (fun t ht _ => ⟨by rw [hz], ht⟩) (fun _ h => by cases h) d_X_goesUp_118
                  · skip
                    rw [lg_cmp_lt] at c_13
                    refine lv_iconst (v := 1) hx hb d_X_goesUp_113 (by decide) ?_
                    refine lv_goto (tgt := 118) hx hb d_X_goesUp_114 (by decide) ?_
                    subst ev_2
                    have hz : f_X_goesUp r lo re be = 1 := by unfold f_X_goesUp; rw [if_neg c_1, if_neg c_3, if_neg c_4, if_neg c_6, if_neg c_8, if_pos c_10, if_neg c_11, if_pos c_12, if_neg c_13]
                    exact W.zret hx hb hr rfl (fun t ht _ => ⟨by rw [hz], ht⟩) (fun _ h => by cases h) d_X_goesUp_118
            · skip
              by_cases c_14 : r = 6
              · skip
                refine lv_tableIn (off := 98) (tgt := 119) hx hb d_X_goesUp_21 (by rw [c_14]; decide) (by rw [c_14]; decide) (by rw [c_14]; rfl) (by decide) ?_
                refine lv_iload hx hb d_X_goesUp_119 (lv_at hl 0 rfl) ?_
                refine lv_if_gt (tgt := 137) hx hb d_X_goesUp_121 (by decide) (fun c_15 => ?_) (fun c_15 => ?_)
                · skip
                  refine lv_iconst (v := 1) hx hb d_X_goesUp_137 (by decide) ?_
                  refine lv_goto (tgt := 142) hx hb d_X_goesUp_138 (by decide) ?_
                  subst ev_2
                  have hz : f_X_goesUp r lo re be = 1 := by unfold f_X_goesUp; rw [if_neg c_1, if_neg c_3, if_neg c_4, if_neg c_6, if_neg c_8, if_neg c_10, if_pos c_14, if_pos c_15]
                  exact W.zret hx hb hr rfl (fun t ht _ => ⟨by rw [hz], ht⟩) (fun _ h => by cases h) d_X_goesUp_142
                · skip
                  refine lv_iload hx hb d_X_goesUp_124 (lv_at hl 0 rfl) ?_
                  refine lv_if_ne (tgt := 141) hx hb d_X_goesUp_126 (by decide) (fun c_16 => ?_) (fun c_16 => ?_)
                  · skip
                    refine lv_iconst (v := 0) hx hb d_X_goesUp_141 (by decide) ?_
                    subst ev_2
                    have hz : f_X_goesUp r lo re be = 0 := by unfold f_X_goesUp; rw [if_neg c_1, if_neg c_3, if_neg c_4, if_neg c_6, if_neg c_8, if_neg c_10, if_pos c_14, if_neg c_15, if_neg c_16]
                    exact W.zret hx hb hr rfl (fun t ht _ => ⟨by rw [hz], ht⟩) (fun _ h => by cases h) d_X_goesUp_142
                  · skip
                    refine lv_lload_n hx hb d_X_goesUp_129 rfl (lv_at hl 2 rfl) ?_
                    refine lv_lconst (v := 1) hx hb d_X_goesUp_130 (by decide) ?_
                    refine lv_land hx hb d_X_goesUp_131 ?_
                    refine lv_lconst (v := 1) hx hb d_X_goesUp_132 (by decide) ?_
                    refine W.lcmp hx hb d_X_goesUp_133 ?_
                    refine lv_if_ne (tgt := 141) hx hb d_X_goesUp_134 (by decide) (fun c_17 => ?_) (fun c_17 => ?_)
                    · skip
                      rw [lg_cmp_eq] at c_17
                      refine lv_iconst (v := 0) hx hb d_X_goesUp_141 (by decide) ?_
                      subst ev_2
                      have hz : f_X_goesUp r lo re be = 0 := by unfold f_X_goesUp; rw [if_neg c_1, if_neg c_3, if_neg c_4, if_neg c_6, if_neg c_8, if_neg c_10, if_pos c_14, if_neg c_15, if_pos c_16, if_neg c_17]
                      exact W.zret hx hb hr rfl (fun t ht _ => ⟨by rw [hz], ht⟩) (fun _ h => by cases h) d_X_goesUp_142
                    · skip
                      rw [lg_cmp_eq] at c_17
                      refine lv_iconst (v := 1) hx hb d_X_goesUp_137 (by decide) ?_
                      refine lv_goto (tgt := 142) hx hb d_X_goesUp_138 (by decide) ?_
                      subst ev_2
                      have hz : f_X_goesUp r lo re be = 1 := by unfold f_X_goesUp; rw [if_neg c_1, if_neg c_3, if_neg c_4, if_neg c_6, if_neg c_8, if_neg c_10, if_pos c_14, if_neg c_15, if_pos c_16, if_pos c_17]
                      exact W.zret hx hb hr rfl (fun t ht _ => ⟨by rw [hz], ht⟩) (fun _ h => by cases h) d_X_goesUp_142
              · skip
                refine lv_tableOut (tgt := 143) hx hb d_X_goesUp_21 (by have n0 := lv_neT (a := 1) c_3 rfl; have n1 := lv_neT (a := 2) c_4 rfl; have n2 := lv_neT (a := 3) c_6 rfl; have n3 := lv_neT (a := 4) c_8 rfl; have n4 := lv_neT (a := 5) c_10 rfl; have n5 := lv_neT (a := 6) c_14 rfl; omega) (by decide) ?_
                refine lv_iconst (v := 0) hx hb d_X_goesUp_143 (by decide) ?_
                subst ev_2
                have hz : f_X_goesUp r lo re be = 0 := by unfold f_X_goesUp; rw [if_neg c_1, if_neg c_3, if_neg c_4, if_neg c_6, if_neg c_8, if_neg c_10, if_neg c_14]
                exact W.zret hx hb hr rfl (fun t ht _ => ⟨by rw [hz], ht⟩) (fun _ h => by cases h) d_X_goesUp_144
  · skip
    rw [lg_cmp_eq] at c_1
    refine lv_iconst (v := 0) hx hb d_X_goesUp_6 (by decide) ?_
    have hz : f_X_goesUp r lo re be = 0 := by unfold f_X_goesUp; rw [if_pos c_1]
    exact W.zret hx hb hr rfl (fun t ht _ => ⟨by rw [hz], ht⟩) (fun _ h => by cases h) d_X_goesUp_7
end
section
set_option maxHeartbeats 4000000 in
set_option maxRecDepth 100000 in
theorem lp_X_commonDivisor {p : Program} {l : Launch} {e : Env} {R : Room} {s : State} {m : MethodId} {args : Array Value} {below : List Frame} {meth : Method} {c : Code} {H : Heap} {locs : List Loc} {cells slots : Nat} {Q : State → Prop} (hx : p.tables.exec = Jvm.exec) (hb : c.code = c_X_commonDivisor) : ∀ (n j : Nat) (a b : Int64) (ls : Array Slot), j + n = 1000 → lv_has ls 11 [(4, .long a), (6, .long b), (8, .int (nI j))] → (∀ ls' : Array Slot, lv_has ls' 11 [(4, .long (eu_L n a b))] → W p l e R s m args below meth c H locs cells slots Q (F0 m 51 ls' [])) → W p l e R s m args below meth c H locs cells slots Q (F0 m 15 ls []) := by
  intro n
  induction n with
  | zero =>
    intro j a b ls hj hl kk
    obtain rfl : j = 1000 := by omega
    refine lv_iload hx hb d_X_commonDivisor_15 (lv_at hl 2 rfl) ?_
    refine lv_sipush (v := 1000) hx hb d_X_commonDivisor_17 (by decide) ?_
    refine lv_icmp_ge (tgt := 51) hx hb d_X_commonDivisor_20 (by decide) (fun c_1 => ?_) (fun c_1 => ?_)
    · skip
      exact kk ls (lv_sub hl [0] rfl)
    · skip
      exact absurd (by decide) c_1
  | succ n ih =>
    intro j a b ls hj hl kk
    refine lv_iload hx hb d_X_commonDivisor_15 (lv_at hl 2 rfl) ?_
    refine lv_sipush (v := 1000) hx hb d_X_commonDivisor_17 (by decide) ?_
    refine lv_icmp_ge (tgt := 51) hx hb d_X_commonDivisor_20 (by decide) (fun c_1 => ?_) (fun c_1 => ?_)
    · skip
      exact absurd c_1 (nI_ge (b := 1000) (by omega) (by decide))
    · skip
      refine lv_lload hx hb d_X_commonDivisor_23 (lv_at hl 1 rfl) ?_
      refine lv_lconst (v := 0) hx hb d_X_commonDivisor_25 (by decide) ?_
      refine W.lcmp hx hb d_X_commonDivisor_26 ?_
      refine lv_if_eq (tgt := 51) hx hb d_X_commonDivisor_27 (by decide) (fun c_2 => ?_) (fun c_2 => ?_)
      · skip
        rw [lg_cmp_eq] at c_2
        have hz : eu_L (n + 1) a b = a := if_pos c_2
        exact kk ls (by rw [hz]; exact lv_sub hl [0] rfl)
      · skip
        rw [lg_cmp_eq] at c_2
        refine lv_lload hx hb d_X_commonDivisor_30 (lv_at hl 0 rfl) ?_
        refine lv_lload hx hb d_X_commonDivisor_32 (lv_at hl 1 rfl) ?_
        refine lv_lrem hx hb d_X_commonDivisor_34 c_2 ?_
        refine lv_topl (fun v_3 ev_3 => ?_)
        refine lv_lstore (lv' := [(9, .long v_3), (4, .long a), (6, .long b), (8, .int (nI j))]) hx hb d_X_commonDivisor_35 hl (by decide) rfl (fun ls hl => ?_)
        refine lv_lload hx hb d_X_commonDivisor_37 (lv_at hl 2 rfl) ?_
        refine lv_lstore (lv' := [(4, .long b), (9, .long v_3), (6, .long b), (8, .int (nI j))]) hx hb d_X_commonDivisor_39 hl (by decide) rfl (fun ls hl => ?_)
        refine lv_lload hx hb d_X_commonDivisor_41 (lv_at hl 1 rfl) ?_
        refine lv_lstore (lv' := [(6, .long v_3), (4, .long b), (9, .long v_3), (8, .int (nI j))]) hx hb d_X_commonDivisor_43 hl (by decide) rfl (fun ls hl => ?_)
        obtain ⟨v_4, ev_4⟩ : ∃ y : Int32, y = nI j + 1 := ⟨_, rfl⟩
        refine lv_iinc (v := v_4) (lv' := [(8, .int v_4), (6, .long v_3), (4, .long b), (9, .long v_3)]) hx hb d_X_commonDivisor_45 hl (k := 3) rfl (by rw [ev_4]; rfl) (by decide) rfl (fun ls hl => ?_)
        refine lv_goto (tgt := 15) hx hb d_X_commonDivisor_48 (by decide) ?_
        subst ev_4
        subst ev_3
        rw [nI_1] at hl
        exact ih (j + 1) b _ ls (by omega) (lv_sub hl [2, 1, 0] rfl) (fun ls' hl' => kk ls' (by rw [show eu_L (n + 1) a b = eu_L n b (a - a / b * b) from if_neg c_2]; exact hl'))
abbrev f_abs (x : Int64) : Int64 := if 0 < x then x else -x
def f_X_commonDivisor (x y : Int64) : Int64 := eu_L 1000 (f_abs x) (f_abs y)
set_option maxHeartbeats 4000000 in
set_option maxRecDepth 100000 in
theorem k_X_commonDivisor (l : Launch) (x y : Int64) : Met l y_X_commonDivisor w_X_commonDivisor ({ frames := 1, cells := 0, slots := 0, locals := 21 }) (va_Pc [.long x, .long y] (fun _ => True)) (k2_QcV (.long (f_X_commonDivisor x y))) 0 0 (fun _ => False) := by
  refine Met.ofW (cc := c_X_commonDivisor) (maxL := 11) (ret := (Option.some Jvm.ClassFile.FieldType.long)) (by decide) rfl ?_
  intro p e s m args below meth c s₁ B hml hv
  obtain ⟨rfl, -⟩ := hv
  have hx := B.exec
  have hb := B.bytes
  have hr := B.returns
  have hts := atoms_spec (ws := w_X_commonDivisor) B.pre
  have hg : ∀ w ∈ WG, w.before _ s = true := fun w h => hts w (List.mem_cons_of_mem _ h)
  have hown : s.vm.findClass R_X = some m.cls := findClass_of_methodNamed B.named
  have hlocks := B.notSynchronized
  have hl := lv_entry ([.long x, .long y]) (n := 11) (Nat.le_of_ble_eq_true rfl)
  rw [lg_entry_eq]
  generalize (lg_sl ([.long x, .long y]) ++ List.replicate (11 - (lg_sl ([.long x, .long y])).length) Slot.unset).toArray = ls at hl ⊢
  have hl : lv_has ls 11 [(0, .long x), (2, .long y)] := hl
  refine lv_lload_n hx hb d_X_commonDivisor_0 rfl (lv_at hl 0 rfl) ?_
  refine va_mabs_long hx hb (hml.trans hl.1.symm) hown (hg _ wg_73) (hg _ wg_74) (hg _ wg_20) (hg _ wg_75) (Nat.le_of_ble_eq_true rfl) (Nat.le_of_ble_eq_true rfl) (Nat.zero_le _) (Nat.zero_le _) d_X_commonDivisor_1 ?_
  refine lv_topl (fun v_1 ev_1 => ?_)
  refine lv_lstore (lv' := [(4, .long v_1), (0, .long x), (2, .long y)]) hx hb d_X_commonDivisor_4 hl (by decide) rfl (fun ls hl => ?_)
  refine lv_lload_n hx hb d_X_commonDivisor_6 rfl (lv_at hl 2 rfl) ?_
  refine va_mabs_long hx hb (hml.trans hl.1.symm) hown (hg _ wg_73) (hg _ wg_74) (hg _ wg_20) (hg _ wg_75) (Nat.le_of_ble_eq_true rfl) (Nat.le_of_ble_eq_true rfl) (Nat.zero_le _) (Nat.zero_le _) d_X_commonDivisor_7 ?_
  refine lv_topl (fun v_2 ev_2 => ?_)
  refine lv_lstore (lv' := [(6, .long v_2), (4, .long v_1), (0, .long x), (2, .long y)]) hx hb d_X_commonDivisor_10 hl (by decide) rfl (fun ls hl => ?_)
  refine lv_iconst (v := 0) hx hb d_X_commonDivisor_12 (by decide) ?_
  refine lv_istore (lv' := [(8, .int 0), (6, .long v_2), (4, .long v_1), (0, .long x), (2, .long y)]) hx hb d_X_commonDivisor_13 hl (by decide) rfl (fun ls hl => ?_)
  subst ev_2
  subst ev_1
  refine lp_X_commonDivisor hx hb 1000 0 _ _ ls (by decide) (lv_sub hl [2, 1, 0] rfl) (fun ls hl => ?_)
  refine lv_lload hx hb d_X_commonDivisor_51 (lv_at hl 0 rfl) ?_
  exact W.lret hx hb hr (fun t ht _ => ⟨rfl, ht⟩) (fun _ h => by cases h) d_X_commonDivisor_53
/-- n times divided by 10 -/
def it_10 : Nat → Int64 → Int64
  | 0, u => u
  | n + 1, u => it_10 n (u / 10)
set_option maxHeartbeats 4000000 in
set_option maxRecDepth 100000 in
theorem lp_X_digitBefore {p : Program} {l : Launch} {e : Env} {R : Room} {s : State} {m : MethodId} {args : Array Value} {below : List Frame} {meth : Method} {c : Code} {H : Heap} {locs : List Loc} {cells slots : Nat} {Q : State → Prop} (hx : p.tables.exec = Jvm.exec) (hb : c.code = c_X_digitBefore) (hg : ∀ w ∈ WG, w.before args s = true) (hown : s.vm.findClass R_X = some m.cls) : ∀ (n j : Nat) (u : Int64) (ls : Array Slot), j + n < 2 ^ 31 → lv_has ls 6 [(2, .int (nI (j + n))), (3, .long u), (5, .int (nI j))] → (∀ ls' : Array Slot, lv_has ls' 6 [(2, .int (nI (j + n))), (3, .long (it_10 n u))] → W p l e R s m args below meth c H locs cells slots Q (F0 m 35 ls' [])) → W p l e R s m args below meth c H locs cells slots Q (F0 m 17 ls []) := by
  intro n
  induction n with
  | zero =>
    intro j u ls hj hl kk
    refine lv_iload hx hb d_X_digitBefore_17 (lv_at hl 2 rfl) ?_
    refine lv_iload_n hx hb d_X_digitBefore_19 rfl (lv_at hl 0 rfl) ?_
    refine lv_icmp_ge (tgt := 35) hx hb d_X_digitBefore_20 (by decide) (fun c_1 => ?_) (fun c_1 => ?_)
    · skip
      exact kk ls (lv_sub hl [0, 1] rfl)
    · skip
      exact absurd (nI_le (Nat.le_refl j) (by omega)) c_1
  | succ n ih =>
    intro j u ls hj hl kk
    refine lv_iload hx hb d_X_digitBefore_17 (lv_at hl 2 rfl) ?_
    refine lv_iload_n hx hb d_X_digitBefore_19 rfl (lv_at hl 0 rfl) ?_
    refine lv_icmp_ge (tgt := 35) hx hb d_X_digitBefore_20 (by decide) (fun c_1 => ?_) (fun c_1 => ?_)
    · skip
      exact absurd c_1 (nI_ge (by omega) (by omega))
    · skip
      refine lv_lload_n hx hb d_X_digitBefore_23 rfl (lv_at hl 1 rfl) ?_
      refine lv_ldc2 (v := 10) hx hb hown (hg _ wg_243) d_X_digitBefore_24 ?_
      refine lv_ldiv hx hb d_X_digitBefore_27 (by decide) ?_
      refine lv_topl (fun v_2 ev_2 => ?_)
      refine lv_lstore_n (lv' := [(3, .long v_2), (2, .int (nI (j + (n + 1)))), (5, .int (nI j))]) hx hb d_X_digitBefore_28 rfl hl (by decide) rfl (fun ls hl => ?_)
      obtain ⟨v_3, ev_3⟩ : ∃ y : Int32, y = nI j + 1 := ⟨_, rfl⟩
      refine lv_iinc (v := v_3) (lv' := [(5, .int v_3), (3, .long v_2), (2, .int (nI (j + (n + 1))))]) hx hb d_X_digitBefore_29 hl (k := 2) rfl (by rw [ev_3]; rfl) (by decide) rfl (fun ls hl => ?_)
      refine lv_goto (tgt := 17) hx hb d_X_digitBefore_32 (by decide) ?_
      subst ev_3
      subst ev_2
      rw [nI_1] at hl
      have e1 : j + (n + 1) = (j + 1) + n := by omega
      rw [e1] at hl kk hj
      exact ih (j + 1) _ ls (by omega) (lv_sub hl [2, 1, 0] rfl) kk
def f_X_digitBefore (u : Int64) (i : Int32) : Int32 := if i < 0 then (-1) else if i < 10 then (if i ≤ 0 then (it_10 i.toNatClampNeg u - it_10 i.toNatClampNeg u / 10 * 10).toInt32 else if it_10 i.toNatClampNeg u = 0 then (-1) else (it_10 i.toNatClampNeg u - it_10 i.toNatClampNeg u / 10 * 10).toInt32) else (-1)
set_option maxHeartbeats 4000000 in
set_option maxRecDepth 100000 in
theorem k_X_digitBefore (l : Launch) (u : Int64) (i : Int32) : Met l y_X_digitBefore w_X_digitBefore ({ frames := 0, cells := 0, slots := 0, locals := 0 }) (va_Pc [.long u, .int i] (fun _ => True)) (k2_QcV (.int (f_X_digitBefore u i))) 0 0 (fun _ => False) := by
  refine Met.ofW (cc := c_X_digitBefore) (maxL := 6) (ret := (Option.some Jvm.ClassFile.FieldType.int)) (by decide) rfl ?_
  intro p e s m args below meth c s₁ B hml hv
  obtain ⟨rfl, -⟩ := hv
  have hx := B.exec
  have hb := B.bytes
  have hr := B.returns
  have hts := atoms_spec (ws := w_X_digitBefore) B.pre
  have hg : ∀ w ∈ WG, w.before _ s = true := fun w h => hts w (List.mem_cons_of_mem _ h)
  have hown : s.vm.findClass R_X = some m.cls := findClass_of_methodNamed B.named
  have hlocks := B.notSynchronized
  have hl := lv_entry ([.long u, .int i]) (n := 6) (Nat.le_of_ble_eq_true rfl)
  rw [lg_entry_eq]
  generalize (lg_sl ([.long u, .int i]) ++ List.replicate (6 - (lg_sl ([.long u, .int i])).length) Slot.unset).toArray = ls at hl ⊢
  have hl : lv_has ls 6 [(0, .long u), (2, .int i)] := hl
  refine lv_iload_n hx hb d_X_digitBefore_0 rfl (lv_at hl 1 rfl) ?_
  refine lv_if_lt (tgt := 10) hx hb d_X_digitBefore_1 (by decide) (fun c_1 => ?_) (fun c_1 => ?_)
  · skip
    refine lv_iconst (v := (-1)) hx hb d_X_digitBefore_10 (by decide) ?_
    have hz : f_X_digitBefore u i = (-1) := by unfold f_X_digitBefore; rw [if_pos c_1]
    exact W.iret hx hb hr (fun t ht _ => ⟨by rw [hz], ht⟩) (fun _ h => by cases h) d_X_digitBefore_11
  · skip
    refine lv_iload_n hx hb d_X_digitBefore_4 rfl (lv_at hl 1 rfl) ?_
    refine lv_bipush (v := 10) hx hb d_X_digitBefore_5 (by decide) ?_
    refine lv_icmp_lt (tgt := 12) hx hb d_X_digitBefore_7 (by decide) (fun c_2 => ?_) (fun c_2 => ?_)
    · skip
      refine lv_lload_n hx hb d_X_digitBefore_12 rfl (lv_at hl 0 rfl) ?_
      refine lv_lstore_n (lv' := [(3, .long u), (0, .long u), (2, .int i)]) hx hb d_X_digitBefore_13 rfl hl (by decide) rfl (fun ls hl => ?_)
      refine lv_iconst (v := 0) hx hb d_X_digitBefore_14 (by decide) ?_
      refine lv_istore (lv' := [(5, .int 0), (3, .long u), (0, .long u), (2, .int i)]) hx hb d_X_digitBefore_15 hl (by decide) rfl (fun ls hl => ?_)
      obtain ⟨k, hk9, ek⟩ := nI_of c_1
      have ek2 : i.toNatClampNeg = k := by rw [ek]; exact nI_clamp hk9
      have ek3 : i = nI (0 + k) := by rw [Nat.zero_add]; exact ek
      refine lp_X_digitBefore hx hb hg hown k 0 _ ls (by omega) (by rw [← ek3]; exact lv_sub hl [3, 1, 0] rfl) (fun ls hl => ?_)
      rw [← ek3, ← ek2] at hl
      refine lv_iload_n hx hb d_X_digitBefore_35 rfl (lv_at hl 0 rfl) ?_
      refine lv_if_le (tgt := 49) hx hb d_X_digitBefore_36 (by decide) (fun c_3 => ?_) (fun c_3 => ?_)
      · skip
        refine lv_lload_n hx hb d_X_digitBefore_49 rfl (lv_at hl 1 rfl) ?_
        refine lv_ldc2 (v := 10) hx hb hown (hg _ wg_243) d_X_digitBefore_50 ?_
        refine lv_lrem hx hb d_X_digitBefore_53 (by decide) ?_
        refine lv_l2i hx hb d_X_digitBefore_54 rfl ?_
        have hz : f_X_digitBefore u i = ((it_10 i.toNatClampNeg u) - (it_10 i.toNatClampNeg u) / 10 * 10).toInt32 := by unfold f_X_digitBefore; rw [if_neg c_1, if_pos c_2, if_pos c_3]
        exact W.iret hx hb hr (fun t ht _ => ⟨by rw [hz], ht⟩) (fun _ h => by cases h) d_X_digitBefore_55
      · skip
        refine lv_lload_n hx hb d_X_digitBefore_39 rfl (lv_at hl 1 rfl) ?_
        refine lv_lconst (v := 0) hx hb d_X_digitBefore_40 (by decide) ?_
        refine W.lcmp hx hb d_X_digitBefore_41 ?_
        refine lv_if_ne (tgt := 49) hx hb d_X_digitBefore_42 (by decide) (fun c_4 => ?_) (fun c_4 => ?_)
        · skip
          rw [lg_cmp_eq] at c_4
          refine lv_lload_n hx hb d_X_digitBefore_49 rfl (lv_at hl 1 rfl) ?_
          refine lv_ldc2 (v := 10) hx hb hown (hg _ wg_243) d_X_digitBefore_50 ?_
          refine lv_lrem hx hb d_X_digitBefore_53 (by decide) ?_
          refine lv_l2i hx hb d_X_digitBefore_54 rfl ?_
          have hz : f_X_digitBefore u i = ((it_10 i.toNatClampNeg u) - (it_10 i.toNatClampNeg u) / 10 * 10).toInt32 := by unfold f_X_digitBefore; rw [if_neg c_1, if_pos c_2, if_neg c_3, if_neg c_4]
          exact W.iret hx hb hr (fun t ht _ => ⟨by rw [hz], ht⟩) (fun _ h => by cases h) d_X_digitBefore_55
        · skip
          rw [lg_cmp_eq] at c_4
          refine lv_iconst (v := (-1)) hx hb d_X_digitBefore_45 (by decide) ?_
          refine lv_goto (tgt := 55) hx hb d_X_digitBefore_46 (by decide) ?_
          have hz : f_X_digitBefore u i = (-1) := by unfold f_X_digitBefore; rw [if_neg c_1, if_pos c_2, if_neg c_3, if_pos c_4]
          exact W.iret hx hb hr (fun t ht _ => ⟨by rw [hz], ht⟩) (fun _ h => by cases h) d_X_digitBefore_55
    · skip
      refine lv_iconst (v := (-1)) hx hb d_X_digitBefore_10 (by decide) ?_
      have hz : f_X_digitBefore u i = (-1) := by unfold f_X_digitBefore; rw [if_neg c_1, if_neg c_2]
      exact W.iret hx hb hr (fun t ht _ => ⟨by rw [hz], ht⟩) (fun _ h => by cases h) d_X_digitBefore_11
/-- n times ten times, without the whole -/
def it_R (d : Int64) : Nat → Int64 → Int64
  | 0, u => u
  | n + 1, u => it_R d n (f_X_restOf (u * 10) d)
set_option maxHeartbeats 4000000 in
set_option maxRecDepth 100000 in
theorem lp_X_digitBehind {p : Program} {l : Launch} {e : Env} {R : Room} {s : State} {m : MethodId} {args : Array Value} {below : List Frame} {meth : Method} {c : Code} {H : Heap} {locs : List Loc} {cells slots : Nat} {Q : State → Prop} (hx : p.tables.exec = Jvm.exec) (hb : c.code = c_X_digitBehind) (hg : ∀ w ∈ WG, w.before args s = true) (hown : s.vm.findClass R_X = some m.cls) (hml : c.maxLocals = 8) (hR : 1 + 1 ≤ R.frames ∧ 8 + (4 + 11) + 25 ≤ R.locals) (hc : cells ≤ R.cells) (hs : slots ≤ R.slots) : ∀ (n j : Nat) (u d : Int64) (ls : Array Slot), j + n < 2 ^ 31 → lv_has ls 8 [(2, .long d), (4, .int (nI (j + n))), (5, .long u), (7, .int (nI j))] → (∀ ls' : Array Slot, lv_has ls' 8 [(2, .long d), (4, .int (nI (j + n))), (5, .long (it_R d n u))] → W p l e R s m args below meth c H locs cells slots Q (F0 m 45 ls' [])) → W p l e R s m args below meth c H locs cells slots Q (F0 m 20 ls []) := by
  intro n
  induction n with
  | zero =>
    intro j u d ls hj hl kk
    refine lv_iload hx hb d_X_digitBehind_20 (lv_at hl 3 rfl) ?_
    refine lv_iload hx hb d_X_digitBehind_22 (lv_at hl 1 rfl) ?_
    refine lv_icmp_ge (tgt := 45) hx hb d_X_digitBehind_24 (by decide) (fun c_1 => ?_) (fun c_1 => ?_)
    · skip
      exact kk ls (lv_sub hl [0, 1, 2] rfl)
    · skip
      exact absurd (nI_le (Nat.le_refl j) (by omega)) c_1
  | succ n ih =>
    intro j u d ls hj hl kk
    refine lv_iload hx hb d_X_digitBehind_20 (lv_at hl 3 rfl) ?_
    refine lv_iload hx hb d_X_digitBehind_22 (lv_at hl 1 rfl) ?_
    refine lv_icmp_ge (tgt := 45) hx hb d_X_digitBehind_24 (by decide) (fun c_1 => ?_) (fun c_1 => ?_)
    · skip
      exact absurd c_1 (nI_ge (by omega) (by omega))
    · skip
      refine lv_lload hx hb d_X_digitBehind_27 (lv_at hl 2 rfl) ?_
      refine lv_ldc2 (v := 10) hx hb hown (hg _ wg_243) d_X_digitBehind_29 ?_
      refine lv_lmul hx hb d_X_digitBehind_32 ?_
      refine lv_lload_n hx hb d_X_digitBehind_33 rfl (lv_at hl 0 rfl) ?_
      refine W.callV (W.runS (As := [.long (u * 10), .long d]) (rest := []) ⟨hx, hb, hml, hown, hg⟩ (k_X_restOf l (u * 10) d) (q_S 2 hg wg_101 wg_99 wg_100 wg_13 rfl rfl (by decide +kernel) hR) ⟨nw_blind, fun _ _ _ => ⟨rfl, trivial⟩⟩ rfl rfl hl.1 rfl (lv_room (Nat.le_of_ble_eq_true rfl)) d_X_digitBehind_34 ⟨hc, hs⟩) ?_
      refine W.eq (g2 := F0 m 37 ls (.long (f_X_restOf (u * 10) d) :: [])) rfl ?_
      refine lv_topl (fun v_2 ev_2 => ?_)
      refine lv_lstore (lv' := [(5, .long v_2), (2, .long d), (4, .int (nI (j + (n + 1)))), (7, .int (nI j))]) hx hb d_X_digitBehind_37 hl (by decide) rfl (fun ls hl => ?_)
      obtain ⟨v_3, ev_3⟩ : ∃ y : Int32, y = nI j + 1 := ⟨_, rfl⟩
      refine lv_iinc (v := v_3) (lv' := [(7, .int v_3), (5, .long v_2), (2, .long d), (4, .int (nI (j + (n + 1))))]) hx hb d_X_digitBehind_39 hl (k := 3) rfl (by rw [ev_3]; rfl) (by decide) rfl (fun ls hl => ?_)
      refine lv_goto (tgt := 20) hx hb d_X_digitBehind_42 (by decide) ?_
      subst ev_3
      subst ev_2
      rw [nI_1] at hl
      have e1 : j + (n + 1) = (j + 1) + n := by omega
      rw [e1] at hl kk hj
      exact ih (j + 1) _ d ls (by omega) (lv_sub hl [2, 3, 1, 0] rfl) kk
def f_X_digitBehind (u d : Int64) (i : Int32) : Int32 := if i < 0 then (-1) else if i < 30 then (if it_R d i.toNatClampNeg u = 0 then (-1) else (f_X_quotientDown (it_R d i.toNatClampNeg u * 10) d).toInt32) else (-1)
set_option maxHeartbeats 4000000 in
set_option maxRecDepth 100000 in
theorem k_X_digitBehind (l : Launch) (u d : Int64) (i : Int32) : Met l y_X_digitBehind w_X_digitBehind ({ frames := 2, cells := 0, slots := 0, locals := 48 }) (va_Pc [.long u, .long d, .int i] (fun _ => True)) (k2_QcV (.int (f_X_digitBehind u d i))) 0 0 (fun _ => False) := by
  refine Met.ofW (cc := c_X_digitBehind) (maxL := 8) (ret := (Option.some Jvm.ClassFile.FieldType.int)) (by decide) rfl ?_
  intro p e s m args below meth c s₁ B hml hv
  obtain ⟨rfl, -⟩ := hv
  have hx := B.exec
  have hb := B.bytes
  have hr := B.returns
  have hts := atoms_spec (ws := w_X_digitBehind) B.pre
  have hg : ∀ w ∈ WG, w.before _ s = true := fun w h => hts w (List.mem_cons_of_mem _ h)
  have hown : s.vm.findClass R_X = some m.cls := findClass_of_methodNamed B.named
  have hlocks := B.notSynchronized
  have hl := lv_entry ([.long u, .long d, .int i]) (n := 8) (Nat.le_of_ble_eq_true rfl)
  rw [lg_entry_eq]
  generalize (lg_sl ([.long u, .long d, .int i]) ++ List.replicate (8 - (lg_sl ([.long u, .long d, .int i])).length) Slot.unset).toArray = ls at hl ⊢
  have hl : lv_has ls 8 [(0, .long u), (2, .long d), (4, .int i)] := hl
  refine lv_iload hx hb d_X_digitBehind_0 (lv_at hl 2 rfl) ?_
  refine lv_if_lt (tgt := 12) hx hb d_X_digitBehind_2 (by decide) (fun c_1 => ?_) (fun c_1 => ?_)
  · skip
    refine lv_iconst (v := (-1)) hx hb d_X_digitBehind_12 (by decide) ?_
    have hz : f_X_digitBehind u d i = (-1) := by unfold f_X_digitBehind; rw [if_pos c_1]
    exact W.iret hx hb hr (fun t ht _ => ⟨by rw [hz], ht⟩) (fun _ h => by cases h) d_X_digitBehind_13
  · skip
    refine lv_iload hx hb d_X_digitBehind_5 (lv_at hl 2 rfl) ?_
    refine lv_bipush (v := 30) hx hb d_X_digitBehind_7 (by decide) ?_
    refine lv_icmp_lt (tgt := 14) hx hb d_X_digitBehind_9 (by decide) (fun c_2 => ?_) (fun c_2 => ?_)
    · skip
      refine lv_lload_n hx hb d_X_digitBehind_14 rfl (lv_at hl 0 rfl) ?_
      refine lv_lstore (lv' := [(5, .long u), (0, .long u), (2, .long d), (4, .int i)]) hx hb d_X_digitBehind_15 hl (by decide) rfl (fun ls hl => ?_)
      refine lv_iconst (v := 0) hx hb d_X_digitBehind_17 (by decide) ?_
      refine lv_istore (lv' := [(7, .int 0), (5, .long u), (0, .long u), (2, .long d), (4, .int i)]) hx hb d_X_digitBehind_18 hl (by decide) rfl (fun ls hl => ?_)
      obtain ⟨k, hk9, ek⟩ := nI_of c_1
      have ek2 : i.toNatClampNeg = k := by rw [ek]; exact nI_clamp hk9
      have ek3 : i = nI (0 + k) := by rw [Nat.zero_add]; exact ek
      refine lp_X_digitBehind hx hb hg hown hml ⟨Nat.le_of_ble_eq_true rfl, Nat.le_of_ble_eq_true rfl⟩ (Nat.zero_le _) (Nat.zero_le _) k 0 _ d ls (by omega) (by rw [← ek3]; exact lv_sub hl [3, 4, 1, 0] rfl) (fun ls hl => ?_)
      rw [← ek3, ← ek2] at hl
      refine lv_lload hx hb d_X_digitBehind_45 (lv_at hl 2 rfl) ?_
      refine lv_lconst (v := 0) hx hb d_X_digitBehind_47 (by decide) ?_
      refine W.lcmp hx hb d_X_digitBehind_48 ?_
      refine lv_if_ne (tgt := 56) hx hb d_X_digitBehind_49 (by decide) (fun c_3 => ?_) (fun c_3 => ?_)
      · skip
        rw [lg_cmp_eq] at c_3
        refine lv_lload hx hb d_X_digitBehind_56 (lv_at hl 2 rfl) ?_
        refine lv_ldc2 (v := 10) hx hb hown (hg _ wg_243) d_X_digitBehind_58 ?_
        refine lv_lmul hx hb d_X_digitBehind_61 ?_
        refine lv_lload_n hx hb d_X_digitBehind_62 rfl (lv_at hl 0 rfl) ?_
        refine W.callV (W.runS (As := [.long ((it_R d i.toNatClampNeg u) * 10), .long d]) (rest := []) ⟨hx, hb, hml, hown, hg⟩ (k_X_quotientDown l ((it_R d i.toNatClampNeg u) * 10) d) (q_S 2 hg wg_95 wg_93 wg_94 wg_13 rfl rfl (by decide +kernel) ⟨Nat.le_of_ble_eq_true rfl, Nat.le_of_ble_eq_true rfl⟩) ⟨nw_blind, fun _ _ _ => ⟨rfl, trivial⟩⟩ rfl rfl hl.1 rfl (lv_room (Nat.le_of_ble_eq_true rfl)) d_X_digitBehind_63 ⟨Nat.le_of_ble_eq_true rfl, Nat.le_of_ble_eq_true rfl⟩) ?_
        refine W.eq (g2 := F0 m 66 ls (.long (f_X_quotientDown ((it_R d i.toNatClampNeg u) * 10) d) :: [])) rfl ?_
        refine lv_l2i hx hb d_X_digitBehind_66 rfl ?_
        have hz : f_X_digitBehind u d i = (f_X_quotientDown ((it_R d i.toNatClampNeg u) * 10) d).toInt32 := by unfold f_X_digitBehind; rw [if_neg c_1, if_pos c_2, if_neg c_3]
        exact W.iret hx hb hr (fun t ht _ => ⟨by rw [hz], ht⟩) (fun _ h => by cases h) d_X_digitBehind_67
      · skip
        rw [lg_cmp_eq] at c_3
        refine lv_iconst (v := (-1)) hx hb d_X_digitBehind_52 (by decide) ?_
        refine lv_goto (tgt := 67) hx hb d_X_digitBehind_53 (by decide) ?_
        have hz : f_X_digitBehind u d i = (-1) := by unfold f_X_digitBehind; rw [if_neg c_1, if_pos c_2, if_pos c_3]
        exact W.iret hx hb hr (fun t ht _ => ⟨by rw [hz], ht⟩) (fun _ h => by cases h) d_X_digitBehind_67
    · skip
      refine lv_iconst (v := (-1)) hx hb d_X_digitBehind_12 (by decide) ?_
      have hz : f_X_digitBehind u d i = (-1) := by unfold f_X_digitBehind; rw [if_neg c_1, if_neg c_2]
      exact W.iret hx hb hr (fun t ht _ => ⟨by rw [hz], ht⟩) (fun _ h => by cases h) d_X_digitBehind_13
end
section
def f_X_isAmount (a n : Int32) : Int32 := if a < 0 then 0 else if n ≤ a then 0 else 1
set_option maxHeartbeats 4000000 in
set_option maxRecDepth 100000 in
theorem k_X_isAmount (l : Launch) (dC : Nat → ClassId) (dI : Nat → Nat → Nat) (cJ cI cT : ClassId) (h a1 a2 a3 a4 a5 : Nat) (n k : Int32) (a : Int32) : Met l y_X_isAmount w_X_isAmount ({ frames := 0, cells := 0, slots := 0, locals := 0 }) (va_Pc [.ref h, .int a] (wd dC dI cJ cI cT [(h, .inr (1, [.ref a1, .ref a2, .ref a3, .int n, .ref a4, .int k, .ref a5]))])) (k2_QcV (.int (f_X_isAmount a n))) 0 0 (fun _ => False) := by
  refine Met.ofW (cc := c_X_isAmount) (maxL := 2) (ret := (Option.some Jvm.ClassFile.FieldType.boolean)) (by decide) rfl ?_
  intro p e s m args below meth c s₁ B hml hv
  obtain ⟨rfl, hP, hK⟩ := hv
  have hx := B.exec
  have hb := B.bytes
  have hr := B.returns
  have hts := atoms_spec (ws := w_X_isAmount) B.pre
  have hg : ∀ w ∈ WG, w.before _ s = true := fun w h => hts w (List.mem_cons_of_mem _ h)
  have hown : s.vm.findClass R_X = some m.cls := findClass_of_methodNamed B.named
  have hlocks := B.notSynchronized
  have hl := lv_entry ([.ref h, .int a]) (n := 2) (Nat.le_of_ble_eq_true rfl)
  rw [lg_entry_eq]
  generalize (lg_sl ([.ref h, .int a]) ++ List.replicate (2 - (lg_sl ([.ref h, .int a])).length) Slot.unset).toArray = ls at hl ⊢
  have hl : lv_has ls 2 [(0, .ref h), (1, .int a)] := hl
  have hP : va_P (dC, dI) classes [(h, .inr (1, [.ref a1, .ref a2, .ref a3, .int n, .ref a4, .int k, .ref a5]))] s.heap := hP
  refine lv_iload_n hx hb d_X_isAmount_0 rfl (lv_at hl 1 rfl) ?_
  refine lv_if_lt (tgt := 16) hx hb d_X_isAmount_1 (by decide) (fun c_1 => ?_) (fun c_1 => ?_)
  · skip
    refine lv_iconst (v := 0) hx hb d_X_isAmount_16 (by decide) ?_
    have hz : f_X_isAmount a n = 0 := by unfold f_X_isAmount; rw [if_pos c_1]
    exact W.zret hx hb hr rfl (fun t ht _ => ⟨by rw [hz], ht⟩) (fun _ h => by cases h) d_X_isAmount_17
  · skip
    refine lv_iload_n hx hb d_X_isAmount_4 rfl (lv_at hl 1 rfl) ?_
    refine lv_aload_n hx hb d_X_isAmount_5 rfl (lv_at hl 0 rfl) ?_
    refine va_get (D := (dC, dI)) (ci := 1) (v := .int n) (C := R_X) (T := F_X) (N := 7) hx hb hg in_X hown hK hP 0 rfl rfl 3 (by decide) (hg _ wg_49) (fun _ h9 => h9) rfl d_X_isAmount_6 ?_
    refine lv_icmp_ge (tgt := 16) hx hb d_X_isAmount_9 (by decide) (fun c_2 => ?_) (fun c_2 => ?_)
    · skip
      refine lv_iconst (v := 0) hx hb d_X_isAmount_16 (by decide) ?_
      have hz : f_X_isAmount a n = 0 := by unfold f_X_isAmount; rw [if_neg c_1, if_pos c_2]
      exact W.zret hx hb hr rfl (fun t ht _ => ⟨by rw [hz], ht⟩) (fun _ h => by cases h) d_X_isAmount_17
    · skip
      refine lv_iconst (v := 1) hx hb d_X_isAmount_12 (by decide) ?_
      refine lv_goto (tgt := 17) hx hb d_X_isAmount_13 (by decide) ?_
      have hz : f_X_isAmount a n = 1 := by unfold f_X_isAmount; rw [if_neg c_1, if_neg c_2]
      exact W.zret hx hb hr rfl (fun t ht _ => ⟨by rw [hz], ht⟩) (fun _ h => by cases h) d_X_isAmount_17
theorem am_in {a n : Int32} (c : ¬ f_X_isAmount a n = 0) (hn : n.toInt ≤ (500 : Nat)) : vp_in a 500 := by
  unfold f_X_isAmount at c
  by_cases h0 : a < 0
  · rw [if_pos h0] at c; exact absurd rfl c
  · rw [if_neg h0] at c
    by_cases h1 : n ≤ a
    · rw [if_pos h1] at c; exact absurd rfl c
    · exact in_nle h0 h1 hn
def f_X_keep (ab be : Nat → Int64) (un : Nat → Int32) (n : Int32) (x y : Int64) (z : Int32) : Int32 × (Nat → Int64) × (Nat → Int64) × (Nat → Int32) × Int32 := if (f_X_commonDivisor x y) < 1 then ((-2), (ab, be, un, n)) else if n < 500 then if 0 ≤ y then if (x / (f_X_commonDivisor x y)) < (-2147483647) then ((-2), (ab, be, un, n)) else if 2147483647 < (x / (f_X_commonDivisor x y)) then ((-2), (ab, be, un, n)) else if (y / (f_X_commonDivisor x y)) < 1 then ((-2), (ab, be, un, n)) else if (y / (f_X_commonDivisor x y)) ≤ 2147483647 then ((n + 1) - 1, (vp_updL ab n.toNatClampNeg (x / (f_X_commonDivisor x y)), vp_updL be n.toNatClampNeg (y / (f_X_commonDivisor x y)), upd un n.toNatClampNeg z, (n + 1))) else ((-2), (ab, be, un, n)) else if (x / (-(f_X_commonDivisor x y))) < (-2147483647) then ((-2), (ab, be, un, n)) else if 2147483647 < (x / (-(f_X_commonDivisor x y))) then ((-2), (ab, be, un, n)) else if (y / (-(f_X_commonDivisor x y))) < 1 then ((-2), (ab, be, un, n)) else if (y / (-(f_X_commonDivisor x y))) ≤ 2147483647 then ((n + 1) - 1, (vp_updL ab n.toNatClampNeg (x / (-(f_X_commonDivisor x y))), vp_updL be n.toNatClampNeg (y / (-(f_X_commonDivisor x y))), upd un n.toNatClampNeg z, (n + 1))) else ((-2), (ab, be, un, n)) else ((-2), (ab, be, un, n))
set_option maxHeartbeats 4000000 in
set_option maxRecDepth 100000 in
theorem k_X_keep (l : Launch) (dC : Nat → ClassId) (dI : Nat → Nat → Nat) (cJ cI cT : ClassId) (h a1 a2 a3 a4 a5 : Nat) (n k : Int32) (ab be : Nat → Int64) (un : Nat → Int32) (x y : Int64) (z : Int32) (sz : Nat) (hn0 : 0 ≤ n.toInt) : Met l y_X_keep w_X_keep ({ frames := 2, cells := 0, slots := 0, locals := 51 }) (va_Pc [.ref h, .long x, .long y, .int z] (wx dC dI cJ cI cT sz [(h, .inr (1, [.ref a1, .ref a2, .ref a3, .int n, .ref a4, .int k, .ref a5])), (a1, .inl (cJ, 500, .inr (.inl ab))), (a2, .inl (cJ, 500, .inr (.inl be))), (a3, .inl (cI, 500, .inl un))])) (va_Qi (fun (r9 : Int32) (u9 : (Nat → Int64) × (Nat → Int64) × (Nat → Int32) × Int32) => (r9, u9) = f_X_keep ab be un n x y z) (fun u => wb dC dI cJ cI cT (va_A [(h, .inr (1, [.ref a1, .ref a2, .ref a3, .int n, .ref a4, .int k, .ref a5])), (a1, .inl (cJ, 500, .inr (.inl ab))), (a2, .inl (cJ, 500, .inr (.inl be))), (a3, .inl (cI, 500, .inl un))] sz) [(h, .inr (1, [.ref a1, .ref a2, .ref a3, .int u.2.2.2, .ref a4, .int k, .ref a5])), (a1, .inl (cJ, 500, .inr (.inl u.1))), (a2, .inl (cJ, 500, .inr (.inl u.2.1))), (a3, .inl (cI, 500, .inl u.2.2.1))]) (va_A [(h, .inr (1, [.ref a1, .ref a2, .ref a3, .int n, .ref a4, .int k, .ref a5])), (a1, .inl (cJ, 500, .inr (.inl ab))), (a2, .inl (cJ, 500, .inr (.inl be))), (a3, .inl (cI, 500, .inl un))] sz)) 0 0 (va_A [(h, .inr (1, [.ref a1, .ref a2, .ref a3, .int n, .ref a4, .int k, .ref a5])), (a1, .inl (cJ, 500, .inr (.inl ab))), (a2, .inl (cJ, 500, .inr (.inl be))), (a3, .inl (cI, 500, .inl un))] sz) := by
  refine Met.ofW (cc := c_X_keep) (maxL := 14) (ret := (Option.some Jvm.ClassFile.FieldType.int)) (by decide) rfl ?_
  intro p e s m args below meth c s₁ B hml hv
  obtain ⟨rfl, hsz, hP, hK, hD0⟩ := hv
  have hx := B.exec
  have hb := B.bytes
  have hr := B.returns
  have hts := atoms_spec (ws := w_X_keep) B.pre
  have hg : ∀ w ∈ WG, w.before _ s = true := fun w h => hts w (List.mem_cons_of_mem _ h)
  have hown : s.vm.findClass R_X = some m.cls := findClass_of_methodNamed B.named
  have hlocks := B.notSynchronized
  have hl := lv_entry ([.ref h, .long x, .long y, .int z]) (n := 14) (Nat.le_of_ble_eq_true rfl)
  rw [lg_entry_eq]
  generalize (lg_sl ([.ref h, .long x, .long y, .int z]) ++ List.replicate (14 - (lg_sl ([.ref h, .long x, .long y, .int z])).length) Slot.unset).toArray = ls at hl ⊢
  have hl : lv_has ls 14 [(0, .ref h), (1, .long x), (3, .long y), (5, .int z)] := hl
  subst hsz
  have hD := hD0.self (sz := s.heap.size)
  generalize hAe : va_A [(h, .inr (1, [.ref a1, .ref a2, .ref a3, .int n, .ref a4, .int k, .ref a5])), (a1, .inl (cJ, 500, .inr (.inl ab))), (a2, .inl (cJ, 500, .inr (.inl be))), (a3, .inl (cI, 500, .inl un))] s.heap.size = A at hD ⊢
  have hA : ∀ q : Nat, s.heap.size ≤ q → A q := fun q h => by rw [← hAe]; exact Or.inr h
  have hS : va_S A s.heap s.heap [] := va_S.rf
  have hP : va_P (dC, dI) classes [(h, .inr (1, [.ref a1, .ref a2, .ref a3, .int n, .ref a4, .int k, .ref a5])), (a1, .inl (cJ, 500, .inr (.inl ab))), (a2, .inl (cJ, 500, .inr (.inl be))), (a3, .inl (cI, 500, .inl un))] s.heap := hP
  have hD : va_D A [(h, .inr (1, [.ref a1, .ref a2, .ref a3, .int n, .ref a4, .int k, .ref a5])), (a1, .inl (cJ, 500, .inr (.inl ab))), (a2, .inl (cJ, 500, .inr (.inl be))), (a3, .inl (cI, 500, .inl un))] := hD
  skip
  refine lv_lload_n hx hb d_X_keep_0 rfl (lv_at hl 1 rfl) ?_
  refine lv_lload_n hx hb d_X_keep_1 rfl (lv_at hl 2 rfl) ?_
  refine W.callV (W.runS (As := [.long x, .long y]) (rest := []) ⟨hx, hb, hml, hown, hg⟩ (k_X_commonDivisor l x y) (q_S 2 hg wg_72 wg_70 wg_71 wg_13 rfl rfl (by decide +kernel) ⟨Nat.le_of_ble_eq_true rfl, Nat.le_of_ble_eq_true rfl⟩) ⟨nw_blind, fun _ _ _ => ⟨rfl, trivial⟩⟩ rfl rfl hl.1 rfl (lv_room (Nat.le_of_ble_eq_true rfl)) d_X_keep_2 ⟨Nat.le_of_ble_eq_true rfl, Nat.le_of_ble_eq_true rfl⟩) ?_
  refine W.eq (g2 := F0 m 5 ls (.long (f_X_commonDivisor x y) :: [])) rfl ?_
  refine lv_topl (fun v_1 ev_1 => ?_)
  refine lv_lstore (lv' := [(6, .long v_1), (0, .ref h), (1, .long x), (3, .long y), (5, .int z)]) hx hb d_X_keep_5 hl (by decide) rfl (fun ls hl => ?_)
  refine lv_lload hx hb d_X_keep_7 (lv_at hl 0 rfl) ?_
  refine lv_lconst (v := 1) hx hb d_X_keep_9 (by decide) ?_
  refine W.lcmp hx hb d_X_keep_10 ?_
  refine lv_if_lt (tgt := 24) hx hb d_X_keep_11 (by decide) (fun c_2 => ?_) (fun c_2 => ?_)
  · skip
    rw [lg_cmp_lt] at c_2
    refine lv_bipush (v := (-2)) hx hb d_X_keep_24 (by decide) ?_
    subst ev_1
    have hP9 := hP.sub (ws' := [(h, .inr (1, [.ref a1, .ref a2, .ref a3, .int n, .ref a4, .int k, .ref a5])), (a1, .inl (cJ, 500, .inr (.inl ab))), (a2, .inl (cJ, 500, .inr (.inl be))), (a3, .inl (cI, 500, .inl un))]) [0, 1, 2, 3] rfl
    have hD9 := hD.sub (ws' := [(h, .inr (1, [.ref a1, .ref a2, .ref a3, .int n, .ref a4, .int k, .ref a5])), (a1, .inl (cJ, 500, .inr (.inl ab))), (a2, .inl (cJ, 500, .inr (.inl be))), (a3, .inl (cI, 500, .inl un))]) [0, 1, 2, 3] (by decide) rfl
    have hz : ((-2), (ab, be, un, n)) = f_X_keep ab be un n x y z := by unfold f_X_keep; rw [if_pos c_2]
    exact W.iret (v := (-2)) hx hb hr (fun t ht hW => ⟨⟨(-2), (ab, be, un, n), rfl, hz, wb_of ht hW hP9 hK hD9⟩, hS.F ht⟩) hS.2.2 d_X_keep_26
  · skip
    rw [lg_cmp_lt] at c_2
    refine lv_aload_n hx hb d_X_keep_14 rfl (lv_at hl 1 rfl) ?_
    refine va_get (D := (dC, dI)) (ci := 1) (v := .int n) (C := R_X) (T := F_X) (N := 7) hx hb hg in_X hown hK hP 0 rfl rfl 3 (by decide) (hg _ wg_49) (fun _ h9 => h9) rfl d_X_keep_15 ?_
    refine lv_sipush (v := 500) hx hb d_X_keep_18 (by decide) ?_
    refine lv_icmp_lt (tgt := 27) hx hb d_X_keep_21 (by decide) (fun c_3 => ?_) (fun c_3 => ?_)
    · skip
      refine lv_lload_n hx hb d_X_keep_27 rfl (lv_at hl 3 rfl) ?_
      refine lv_lconst (v := 0) hx hb d_X_keep_28 (by decide) ?_
      refine W.lcmp hx hb d_X_keep_29 ?_
      refine lv_if_ge (tgt := 39) hx hb d_X_keep_30 (by decide) (fun c_4 => ?_) (fun c_4 => ?_)
      · skip
        rw [lg_cmp_ge] at c_4
        refine lv_lload hx hb d_X_keep_39 (lv_at hl 0 rfl) ?_
        refine lv_lstore (lv' := [(8, .long v_1), (6, .long v_1), (0, .ref h), (1, .long x), (3, .long y), (5, .int z)]) hx hb d_X_keep_41 hl (by decide) rfl (fun ls hl => ?_)
        refine lv_lload_n hx hb d_X_keep_43 rfl (lv_at hl 3 rfl) ?_
        refine lv_lload hx hb d_X_keep_44 (lv_at hl 0 rfl) ?_
        refine lv_ldiv hx hb d_X_keep_46 (nz_pos c_2) ?_
        refine lv_topl (fun v_5 ev_5 => ?_)
        refine lv_lstore (lv' := [(10, .long v_5), (8, .long v_1), (6, .long v_1), (0, .ref h), (1, .long x), (3, .long y), (5, .int z)]) hx hb d_X_keep_47 hl (by decide) rfl (fun ls hl => ?_)
        refine lv_lload_n hx hb d_X_keep_49 rfl (lv_at hl 5 rfl) ?_
        refine lv_lload hx hb d_X_keep_50 (lv_at hl 1 rfl) ?_
        refine lv_ldiv hx hb d_X_keep_52 (nz_pos c_2) ?_
        refine lv_topl (fun v_6 ev_6 => ?_)
        refine lv_lstore (lv' := [(12, .long v_6), (10, .long v_5), (8, .long v_1), (6, .long v_1), (0, .ref h), (1, .long x), (3, .long y), (5, .int z)]) hx hb d_X_keep_53 hl (by decide) rfl (fun ls hl => ?_)
        refine lv_lload hx hb d_X_keep_55 (lv_at hl 1 rfl) ?_
        refine lv_ldc2 (v := (-2147483647)) hx hb hown (hg _ wg_76) d_X_keep_57 ?_
        refine W.lcmp hx hb d_X_keep_60 ?_
        refine lv_if_lt (tgt := 89) hx hb d_X_keep_61 (by decide) (fun c_7 => ?_) (fun c_7 => ?_)
        · skip
          rw [lg_cmp_lt] at c_7
          refine lv_bipush (v := (-2)) hx hb d_X_keep_89 (by decide) ?_
          subst ev_6
          subst ev_5
          subst ev_1
          have hP9 := hP.sub (ws' := [(h, .inr (1, [.ref a1, .ref a2, .ref a3, .int n, .ref a4, .int k, .ref a5])), (a1, .inl (cJ, 500, .inr (.inl ab))), (a2, .inl (cJ, 500, .inr (.inl be))), (a3, .inl (cI, 500, .inl un))]) [0, 1, 2, 3] rfl
          have hD9 := hD.sub (ws' := [(h, .inr (1, [.ref a1, .ref a2, .ref a3, .int n, .ref a4, .int k, .ref a5])), (a1, .inl (cJ, 500, .inr (.inl ab))), (a2, .inl (cJ, 500, .inr (.inl be))), (a3, .inl (cI, 500, .inl un))]) [0, 1, 2, 3] (by decide) rfl
          have hz : ((-2), (ab, be, un, n)) = f_X_keep ab be un n x y z := by unfold f_X_keep; rw [if_neg c_2, if_pos c_3, if_pos c_4, if_pos c_7]
          exact W.iret (v := (-2)) hx hb hr (fun t ht hW => ⟨⟨(-2), (ab, be, un, n), rfl, hz, wb_of ht hW hP9 hK hD9⟩, hS.F ht⟩) hS.2.2 d_X_keep_91
        · skip
          rw [lg_cmp_lt] at c_7
          refine lv_lload hx hb d_X_keep_64 (lv_at hl 1 rfl) ?_
          refine lv_ldc2 (v := 2147483647) hx hb hown (hg _ wg_77) d_X_keep_66 ?_
          refine W.lcmp hx hb d_X_keep_69 ?_
          refine lv_if_gt (tgt := 89) hx hb d_X_keep_70 (by decide) (fun c_8 => ?_) (fun c_8 => ?_)
          · skip
            rw [lg_cmp_gt] at c_8
            refine lv_bipush (v := (-2)) hx hb d_X_keep_89 (by decide) ?_
            subst ev_6
            subst ev_5
            subst ev_1
            have hP9 := hP.sub (ws' := [(h, .inr (1, [.ref a1, .ref a2, .ref a3, .int n, .ref a4, .int k, .ref a5])), (a1, .inl (cJ, 500, .inr (.inl ab))), (a2, .inl (cJ, 500, .inr (.inl be))), (a3, .inl (cI, 500, .inl un))]) [0, 1, 2, 3] rfl
            have hD9 := hD.sub (ws' := [(h, .inr (1, [.ref a1, .ref a2, .ref a3, .int n, .ref a4, .int k, .ref a5])), (a1, .inl (cJ, 500, .inr (.inl ab))), (a2, .inl (cJ, 500, .inr (.inl be))), (a3, .inl (cI, 500, .inl un))]) [0, 1, 2, 3] (by decide) rfl
            have hz : ((-2), (ab, be, un, n)) = f_X_keep ab be un n x y z := by unfold f_X_keep; rw [if_neg c_2, if_pos c_3, if_pos c_4, if_neg c_7, if_pos c_8]
            exact W.iret (v := (-2)) hx hb hr (fun t ht hW => ⟨⟨(-2), (ab, be, un, n), rfl, hz, wb_of ht hW hP9 hK hD9⟩, hS.F ht⟩) hS.2.2 d_X_keep_91
          · skip
            rw [lg_cmp_gt] at c_8
            refine lv_lload hx hb d_X_keep_73 (lv_at hl 0 rfl) ?_
            refine lv_lconst (v := 1) hx hb d_X_keep_75 (by decide) ?_
            refine W.lcmp hx hb d_X_keep_76 ?_
            refine lv_if_lt (tgt := 89) hx hb d_X_keep_77 (by decide) (fun c_9 => ?_) (fun c_9 => ?_)
            · skip
              rw [lg_cmp_lt] at c_9
              refine lv_bipush (v := (-2)) hx hb d_X_keep_89 (by decide) ?_
              subst ev_6
              subst ev_5
              subst ev_1
              have hP9 := hP.sub (ws' := [(h, .inr (1, [.ref a1, .ref a2, .ref a3, .int n, .ref a4, .int k, .ref a5])), (a1, .inl (cJ, 500, .inr (.inl ab))), (a2, .inl (cJ, 500, .inr (.inl be))), (a3, .inl (cI, 500, .inl un))]) [0, 1, 2, 3] rfl
              have hD9 := hD.sub (ws' := [(h, .inr (1, [.ref a1, .ref a2, .ref a3, .int n, .ref a4, .int k, .ref a5])), (a1, .inl (cJ, 500, .inr (.inl ab))), (a2, .inl (cJ, 500, .inr (.inl be))), (a3, .inl (cI, 500, .inl un))]) [0, 1, 2, 3] (by decide) rfl
              have hz : ((-2), (ab, be, un, n)) = f_X_keep ab be un n x y z := by unfold f_X_keep; rw [if_neg c_2, if_pos c_3, if_pos c_4, if_neg c_7, if_neg c_8, if_pos c_9]
              exact W.iret (v := (-2)) hx hb hr (fun t ht hW => ⟨⟨(-2), (ab, be, un, n), rfl, hz, wb_of ht hW hP9 hK hD9⟩, hS.F ht⟩) hS.2.2 d_X_keep_91
            · skip
              rw [lg_cmp_lt] at c_9
              refine lv_lload hx hb d_X_keep_80 (lv_at hl 0 rfl) ?_
              refine lv_ldc2 (v := 2147483647) hx hb hown (hg _ wg_77) d_X_keep_82 ?_
              refine W.lcmp hx hb d_X_keep_85 ?_
              refine lv_if_le (tgt := 92) hx hb d_X_keep_86 (by decide) (fun c_10 => ?_) (fun c_10 => ?_)
              · skip
                rw [lg_cmp_le] at c_10
                refine lv_aload_n hx hb d_X_keep_92 rfl (lv_at hl 4 rfl) ?_
                refine va_get (D := (dC, dI)) (ci := 1) (v := .ref a1) (C := R_X) (T := F_X) (N := 7) hx hb hg in_X hown hK hP 0 rfl rfl 0 (by decide) (hg _ wg_46) (fun _ h9 => h9) rfl d_X_keep_93 ?_
                refine lv_aload_n hx hb d_X_keep_96 rfl (lv_at hl 4 rfl) ?_
                refine va_get (D := (dC, dI)) (ci := 1) (v := .int n) (C := R_X) (T := F_X) (N := 7) hx hb hg in_X hown hK hP 0 rfl rfl 3 (by decide) (hg _ wg_49) (fun _ h9 => h9) rfl d_X_keep_97 ?_
                refine lv_lload hx hb d_X_keep_100 (lv_at hl 1 rfl) ?_
                refine va_last hx hb hK hP hD hS 1 0 rfl rfl (in_cnt hn0 c_3 (by decide)) d_X_keep_102 (fun H locs hP hD hS => ?_)
                have hP : va_P (dC, dI) classes [(h, .inr (1, [.ref a1, .ref a2, .ref a3, .int n, .ref a4, .int k, .ref a5])), (a1, .inl (cJ, 500, .inr (.inl (vp_updL ab n.toNatClampNeg v_5)))), (a2, .inl (cJ, 500, .inr (.inl be))), (a3, .inl (cI, 500, .inl un))] H := hP
                have hD : va_D A [(h, .inr (1, [.ref a1, .ref a2, .ref a3, .int n, .ref a4, .int k, .ref a5])), (a1, .inl (cJ, 500, .inr (.inl (vp_updL ab n.toNatClampNeg v_5)))), (a2, .inl (cJ, 500, .inr (.inl be))), (a3, .inl (cI, 500, .inl un))] := hD
                refine lv_aload_n hx hb d_X_keep_103 rfl (lv_at hl 4 rfl) ?_
                refine va_get (D := (dC, dI)) (ci := 1) (v := .ref a2) (C := R_X) (T := F_X) (N := 7) hx hb hg in_X hown hK hP 0 rfl rfl 1 (by decide) (hg _ wg_47) (fun _ h9 => h9) rfl d_X_keep_104 ?_
                refine lv_aload_n hx hb d_X_keep_107 rfl (lv_at hl 4 rfl) ?_
                refine va_get (D := (dC, dI)) (ci := 1) (v := .int n) (C := R_X) (T := F_X) (N := 7) hx hb hg in_X hown hK hP 0 rfl rfl 3 (by decide) (hg _ wg_49) (fun _ h9 => h9) rfl d_X_keep_108 ?_
                refine lv_lload hx hb d_X_keep_111 (lv_at hl 0 rfl) ?_
                refine va_last hx hb hK hP hD hS 2 0 rfl rfl (in_cnt hn0 c_3 (by decide)) d_X_keep_113 (fun H locs hP hD hS => ?_)
                have hP : va_P (dC, dI) classes [(h, .inr (1, [.ref a1, .ref a2, .ref a3, .int n, .ref a4, .int k, .ref a5])), (a1, .inl (cJ, 500, .inr (.inl (vp_updL ab n.toNatClampNeg v_5)))), (a2, .inl (cJ, 500, .inr (.inl (vp_updL be n.toNatClampNeg v_6)))), (a3, .inl (cI, 500, .inl un))] H := hP
                have hD : va_D A [(h, .inr (1, [.ref a1, .ref a2, .ref a3, .int n, .ref a4, .int k, .ref a5])), (a1, .inl (cJ, 500, .inr (.inl (vp_updL ab n.toNatClampNeg v_5)))), (a2, .inl (cJ, 500, .inr (.inl (vp_updL be n.toNatClampNeg v_6)))), (a3, .inl (cI, 500, .inl un))] := hD
                refine lv_aload_n hx hb d_X_keep_114 rfl (lv_at hl 4 rfl) ?_
                refine va_get (D := (dC, dI)) (ci := 1) (v := .ref a3) (C := R_X) (T := F_X) (N := 7) hx hb hg in_X hown hK hP 0 rfl rfl 2 (by decide) (hg _ wg_48) (fun _ h9 => h9) rfl d_X_keep_115 ?_
                refine lv_aload_n hx hb d_X_keep_118 rfl (lv_at hl 4 rfl) ?_
                refine va_get (D := (dC, dI)) (ci := 1) (v := .int n) (C := R_X) (T := F_X) (N := 7) hx hb hg in_X hown hK hP 0 rfl rfl 3 (by decide) (hg _ wg_49) (fun _ h9 => h9) rfl d_X_keep_119 ?_
                refine lv_iload hx hb d_X_keep_122 (lv_at hl 7 rfl) ?_
                refine va_iast hx hb hK hP hD hS 3 1 rfl rfl (in_cnt hn0 c_3 (by decide)) d_X_keep_124 (fun H locs hP hD hS => ?_)
                have hP : va_P (dC, dI) classes [(h, .inr (1, [.ref a1, .ref a2, .ref a3, .int n, .ref a4, .int k, .ref a5])), (a1, .inl (cJ, 500, .inr (.inl (vp_updL ab n.toNatClampNeg v_5)))), (a2, .inl (cJ, 500, .inr (.inl (vp_updL be n.toNatClampNeg v_6)))), (a3, .inl (cI, 500, .inl (upd un n.toNatClampNeg z)))] H := hP
                have hD : va_D A [(h, .inr (1, [.ref a1, .ref a2, .ref a3, .int n, .ref a4, .int k, .ref a5])), (a1, .inl (cJ, 500, .inr (.inl (vp_updL ab n.toNatClampNeg v_5)))), (a2, .inl (cJ, 500, .inr (.inl (vp_updL be n.toNatClampNeg v_6)))), (a3, .inl (cI, 500, .inl (upd un n.toNatClampNeg z)))] := hD
                refine lv_aload_n hx hb d_X_keep_125 rfl (lv_at hl 4 rfl) ?_
                refine lv_dup hx hb d_X_keep_126 rfl ?_
                refine va_get (D := (dC, dI)) (ci := 1) (v := .int n) (C := R_X) (T := F_X) (N := 7) hx hb hg in_X hown hK hP 0 rfl rfl 3 (by decide) (hg _ wg_49) (fun _ h9 => h9) rfl d_X_keep_127 ?_
                refine lv_iconst (v := 1) hx hb d_X_keep_130 (by decide) ?_
                refine lv_iadd hx hb d_X_keep_131 ?_
                refine lv_topi (fun v_11 ev_11 => ?_)
                refine va_put (D := (dC, dI)) (ci := 1) (v := .int v_11) (ty := .int) (C := R_X) (T := F_X) (N := 7) hx hb hg in_X tt_X tt_X_ok nn_X hown hK hP hD hS 0 rfl rfl 3 (by decide) (hg _ wg_49) (fun _ h9 => h9) rfl (by decide +kernel) rfl rfl (Nat.le_of_ble_eq_true rfl) d_X_keep_132 (fun H locs hP hD hS => ?_)
                have hP : va_P (dC, dI) classes [(h, .inr (1, [.ref a1, .ref a2, .ref a3, .int v_11, .ref a4, .int k, .ref a5])), (a1, .inl (cJ, 500, .inr (.inl (vp_updL ab n.toNatClampNeg v_5)))), (a2, .inl (cJ, 500, .inr (.inl (vp_updL be n.toNatClampNeg v_6)))), (a3, .inl (cI, 500, .inl (upd un n.toNatClampNeg z)))] H := hP
                have hD : va_D A [(h, .inr (1, [.ref a1, .ref a2, .ref a3, .int v_11, .ref a4, .int k, .ref a5])), (a1, .inl (cJ, 500, .inr (.inl (vp_updL ab n.toNatClampNeg v_5)))), (a2, .inl (cJ, 500, .inr (.inl (vp_updL be n.toNatClampNeg v_6)))), (a3, .inl (cI, 500, .inl (upd un n.toNatClampNeg z)))] := hD
                refine lv_aload_n hx hb d_X_keep_135 rfl (lv_at hl 4 rfl) ?_
                refine va_get (D := (dC, dI)) (ci := 1) (v := .int v_11) (C := R_X) (T := F_X) (N := 7) hx hb hg in_X hown hK hP 0 rfl rfl 3 (by decide) (hg _ wg_49) (fun _ h9 => h9) rfl d_X_keep_136 ?_
                refine lv_iconst (v := 1) hx hb d_X_keep_139 (by decide) ?_
                refine lv_isub hx hb d_X_keep_140 ?_
                subst ev_11
                subst ev_6
                subst ev_5
                subst ev_1
                have hP9 := hP.sub (ws' := [(h, .inr (1, [.ref a1, .ref a2, .ref a3, .int (n + 1), .ref a4, .int k, .ref a5])), (a1, .inl (cJ, 500, .inr (.inl (vp_updL ab n.toNatClampNeg (x / (f_X_commonDivisor x y)))))), (a2, .inl (cJ, 500, .inr (.inl (vp_updL be n.toNatClampNeg (y / (f_X_commonDivisor x y)))))), (a3, .inl (cI, 500, .inl (upd un n.toNatClampNeg z)))]) [0, 1, 2, 3] rfl
                have hD9 := hD.sub (ws' := [(h, .inr (1, [.ref a1, .ref a2, .ref a3, .int (n + 1), .ref a4, .int k, .ref a5])), (a1, .inl (cJ, 500, .inr (.inl (vp_updL ab n.toNatClampNeg (x / (f_X_commonDivisor x y)))))), (a2, .inl (cJ, 500, .inr (.inl (vp_updL be n.toNatClampNeg (y / (f_X_commonDivisor x y)))))), (a3, .inl (cI, 500, .inl (upd un n.toNatClampNeg z)))]) [0, 1, 2, 3] (by decide) rfl
                have hz : ((n + 1) - 1, (vp_updL ab n.toNatClampNeg (x / (f_X_commonDivisor x y)), vp_updL be n.toNatClampNeg (y / (f_X_commonDivisor x y)), upd un n.toNatClampNeg z, (n + 1))) = f_X_keep ab be un n x y z := by unfold f_X_keep; rw [if_neg c_2, if_pos c_3, if_pos c_4, if_neg c_7, if_neg c_8, if_neg c_9, if_pos c_10]
                exact W.iret (v := (n + 1) - 1) hx hb hr (fun t ht hW => ⟨⟨(n + 1) - 1, (vp_updL ab n.toNatClampNeg (x / (f_X_commonDivisor x y)), vp_updL be n.toNatClampNeg (y / (f_X_commonDivisor x y)), upd un n.toNatClampNeg z, (n + 1)), rfl, hz, wb_of ht hW hP9 hK hD9⟩, hS.F ht⟩) hS.2.2 d_X_keep_141
              · skip
                rw [lg_cmp_le] at c_10
                refine lv_bipush (v := (-2)) hx hb d_X_keep_89 (by decide) ?_
                subst ev_6
                subst ev_5
                subst ev_1
                have hP9 := hP.sub (ws' := [(h, .inr (1, [.ref a1, .ref a2, .ref a3, .int n, .ref a4, .int k, .ref a5])), (a1, .inl (cJ, 500, .inr (.inl ab))), (a2, .inl (cJ, 500, .inr (.inl be))), (a3, .inl (cI, 500, .inl un))]) [0, 1, 2, 3] rfl
                have hD9 := hD.sub (ws' := [(h, .inr (1, [.ref a1, .ref a2, .ref a3, .int n, .ref a4, .int k, .ref a5])), (a1, .inl (cJ, 500, .inr (.inl ab))), (a2, .inl (cJ, 500, .inr (.inl be))), (a3, .inl (cI, 500, .inl un))]) [0, 1, 2, 3] (by decide) rfl
                have hz : ((-2), (ab, be, un, n)) = f_X_keep ab be un n x y z := by unfold f_X_keep; rw [if_neg c_2, if_pos c_3, if_pos c_4, if_neg c_7, if_neg c_8, if_neg c_9, if_neg c_10]
                exact W.iret (v := (-2)) hx hb hr (fun t ht hW => ⟨⟨(-2), (ab, be, un, n), rfl, hz, wb_of ht hW hP9 hK hD9⟩, hS.F ht⟩) hS.2.2 d_X_keep_91
      · skip
        rw [lg_cmp_ge] at c_4
        refine lv_lload hx hb d_X_keep_33 (lv_at hl 0 rfl) ?_
        refine lv_lneg hx hb d_X_keep_35 ?_
        refine lv_goto (tgt := 41) hx hb d_X_keep_36 (by decide) ?_
        refine lv_topl (fun v_12 ev_12 => ?_)
        refine lv_lstore (lv' := [(8, .long v_12), (6, .long v_1), (0, .ref h), (1, .long x), (3, .long y), (5, .int z)]) hx hb d_X_keep_41 hl (by decide) rfl (fun ls hl => ?_)
        refine lv_lload_n hx hb d_X_keep_43 rfl (lv_at hl 3 rfl) ?_
        refine lv_lload hx hb d_X_keep_44 (lv_at hl 0 rfl) ?_
        refine lv_ldiv hx hb d_X_keep_46 (by rw [ev_12]; exact nz_neg c_2) ?_
        refine lv_topl (fun v_13 ev_13 => ?_)
        refine lv_lstore (lv' := [(10, .long v_13), (8, .long v_12), (6, .long v_1), (0, .ref h), (1, .long x), (3, .long y), (5, .int z)]) hx hb d_X_keep_47 hl (by decide) rfl (fun ls hl => ?_)
        refine lv_lload_n hx hb d_X_keep_49 rfl (lv_at hl 5 rfl) ?_
        refine lv_lload hx hb d_X_keep_50 (lv_at hl 1 rfl) ?_
        refine lv_ldiv hx hb d_X_keep_52 (by rw [ev_12]; exact nz_neg c_2) ?_
        refine lv_topl (fun v_14 ev_14 => ?_)
        refine lv_lstore (lv' := [(12, .long v_14), (10, .long v_13), (8, .long v_12), (6, .long v_1), (0, .ref h), (1, .long x), (3, .long y), (5, .int z)]) hx hb d_X_keep_53 hl (by decide) rfl (fun ls hl => ?_)
        refine lv_lload hx hb d_X_keep_55 (lv_at hl 1 rfl) ?_
        refine lv_ldc2 (v := (-2147483647)) hx hb hown (hg _ wg_76) d_X_keep_57 ?_
        refine W.lcmp hx hb d_X_keep_60 ?_
        refine lv_if_lt (tgt := 89) hx hb d_X_keep_61 (by decide) (fun c_15 => ?_) (fun c_15 => ?_)
        · skip
          rw [lg_cmp_lt] at c_15
          refine lv_bipush (v := (-2)) hx hb d_X_keep_89 (by decide) ?_
          subst ev_14
          subst ev_13
          subst ev_12
          subst ev_1
          have hP9 := hP.sub (ws' := [(h, .inr (1, [.ref a1, .ref a2, .ref a3, .int n, .ref a4, .int k, .ref a5])), (a1, .inl (cJ, 500, .inr (.inl ab))), (a2, .inl (cJ, 500, .inr (.inl be))), (a3, .inl (cI, 500, .inl un))]) [0, 1, 2, 3] rfl
          have hD9 := hD.sub (ws' := [(h, .inr (1, [.ref a1, .ref a2, .ref a3, .int n, .ref a4, .int k, .ref a5])), (a1, .inl (cJ, 500, .inr (.inl ab))), (a2, .inl (cJ, 500, .inr (.inl be))), (a3, .inl (cI, 500, .inl un))]) [0, 1, 2, 3] (by decide) rfl
          have hz : ((-2), (ab, be, un, n)) = f_X_keep ab be un n x y z := by unfold f_X_keep; rw [if_neg c_2, if_pos c_3, if_neg c_4, if_pos c_15]
          exact W.iret (v := (-2)) hx hb hr (fun t ht hW => ⟨⟨(-2), (ab, be, un, n), rfl, hz, wb_of ht hW hP9 hK hD9⟩, hS.F ht⟩) hS.2.2 d_X_keep_91
        · skip
          rw [lg_cmp_lt] at c_15
          refine lv_lload hx hb d_X_keep_64 (lv_at hl 1 rfl) ?_
          refine lv_ldc2 (v := 2147483647) hx hb hown (hg _ wg_77) d_X_keep_66 ?_
          refine W.lcmp hx hb d_X_keep_69 ?_
          refine lv_if_gt (tgt := 89) hx hb d_X_keep_70 (by decide) (fun c_16 => ?_) (fun c_16 => ?_)
          · skip
            rw [lg_cmp_gt] at c_16
            refine lv_bipush (v := (-2)) hx hb d_X_keep_89 (by decide) ?_
            subst ev_14
            subst ev_13
            subst ev_12
            subst ev_1
            have hP9 := hP.sub (ws' := [(h, .inr (1, [.ref a1, .ref a2, .ref a3, .int n, .ref a4, .int k, .ref a5])), (a1, .inl (cJ, 500, .inr (.inl ab))), (a2, .inl (cJ, 500, .inr (.inl be))), (a3, .inl (cI, 500, .inl un))]) [0, 1, 2, 3] rfl
            have hD9 := hD.sub (ws' := [(h, .inr (1, [.ref a1, .ref a2, .ref a3, .int n, .ref a4, .int k, .ref a5])), (a1, .inl (cJ, 500, .inr (.inl ab))), (a2, .inl (cJ, 500, .inr (.inl be))), (a3, .inl (cI, 500, .inl un))]) [0, 1, 2, 3] (by decide) rfl
            have hz : ((-2), (ab, be, un, n)) = f_X_keep ab be un n x y z := by unfold f_X_keep; rw [if_neg c_2, if_pos c_3, if_neg c_4, if_neg c_15, if_pos c_16]
            exact W.iret (v := (-2)) hx hb hr (fun t ht hW => ⟨⟨(-2), (ab, be, un, n), rfl, hz, wb_of ht hW hP9 hK hD9⟩, hS.F ht⟩) hS.2.2 d_X_keep_91
          · skip
            rw [lg_cmp_gt] at c_16
            refine lv_lload hx hb d_X_keep_73 (lv_at hl 0 rfl) ?_
            refine lv_lconst (v := 1) hx hb d_X_keep_75 (by decide) ?_
            refine W.lcmp hx hb d_X_keep_76 ?_
            refine lv_if_lt (tgt := 89) hx hb d_X_keep_77 (by decide) (fun c_17 => ?_) (fun c_17 => ?_)
            · skip
              rw [lg_cmp_lt] at c_17
              refine lv_bipush (v := (-2)) hx hb d_X_keep_89 (by decide) ?_
              subst ev_14
              subst ev_13
              subst ev_12
              subst ev_1
              have hP9 := hP.sub (ws' := [(h, .inr (1, [.ref a1, .ref a2, .ref a3, .int n, .ref a4, .int k, .ref a5])), (a1, .inl (cJ, 500, .inr (.inl ab))), (a2, .inl (cJ, 500, .inr (.inl be))), (a3, .inl (cI, 500, .inl un))]) [0, 1, 2, 3] rfl
              have hD9 := hD.sub (ws' := [(h, .inr (1, [.ref a1, .ref a2, .ref a3, .int n, .ref a4, .int k, .ref a5])), (a1, .inl (cJ, 500, .inr (.inl ab))), (a2, .inl (cJ, 500, .inr (.inl be))), (a3, .inl (cI, 500, .inl un))]) [0, 1, 2, 3] (by decide) rfl
              have hz : ((-2), (ab, be, un, n)) = f_X_keep ab be un n x y z := by unfold f_X_keep; rw [if_neg c_2, if_pos c_3, if_neg c_4, if_neg c_15, if_neg c_16, if_pos c_17]
              exact W.iret (v := (-2)) hx hb hr (fun t ht hW => ⟨⟨(-2), (ab, be, un, n), rfl, hz, wb_of ht hW hP9 hK hD9⟩, hS.F ht⟩) hS.2.2 d_X_keep_91
            · skip
              rw [lg_cmp_lt] at c_17
              refine lv_lload hx hb d_X_keep_80 (lv_at hl 0 rfl) ?_
              refine lv_ldc2 (v := 2147483647) hx hb hown (hg _ wg_77) d_X_keep_82 ?_
              refine W.lcmp hx hb d_X_keep_85 ?_
              refine lv_if_le (tgt := 92) hx hb d_X_keep_86 (by decide) (fun c_18 => ?_) (fun c_18 => ?_)
              · skip
                rw [lg_cmp_le] at c_18
                refine lv_aload_n hx hb d_X_keep_92 rfl (lv_at hl 4 rfl) ?_
                refine va_get (D := (dC, dI)) (ci := 1) (v := .ref a1) (C := R_X) (T := F_X) (N := 7) hx hb hg in_X hown hK hP 0 rfl rfl 0 (by decide) (hg _ wg_46) (fun _ h9 => h9) rfl d_X_keep_93 ?_
                refine lv_aload_n hx hb d_X_keep_96 rfl (lv_at hl 4 rfl) ?_
                refine va_get (D := (dC, dI)) (ci := 1) (v := .int n) (C := R_X) (T := F_X) (N := 7) hx hb hg in_X hown hK hP 0 rfl rfl 3 (by decide) (hg _ wg_49) (fun _ h9 => h9) rfl d_X_keep_97 ?_
                refine lv_lload hx hb d_X_keep_100 (lv_at hl 1 rfl) ?_
                refine va_last hx hb hK hP hD hS 1 0 rfl rfl (in_cnt hn0 c_3 (by decide)) d_X_keep_102 (fun H locs hP hD hS => ?_)
                have hP : va_P (dC, dI) classes [(h, .inr (1, [.ref a1, .ref a2, .ref a3, .int n, .ref a4, .int k, .ref a5])), (a1, .inl (cJ, 500, .inr (.inl (vp_updL ab n.toNatClampNeg v_13)))), (a2, .inl (cJ, 500, .inr (.inl be))), (a3, .inl (cI, 500, .inl un))] H := hP
                have hD : va_D A [(h, .inr (1, [.ref a1, .ref a2, .ref a3, .int n, .ref a4, .int k, .ref a5])), (a1, .inl (cJ, 500, .inr (.inl (vp_updL ab n.toNatClampNeg v_13)))), (a2, .inl (cJ, 500, .inr (.inl be))), (a3, .inl (cI, 500, .inl un))] := hD
                refine lv_aload_n hx hb d_X_keep_103 rfl (lv_at hl 4 rfl) ?_
                refine va_get (D := (dC, dI)) (ci := 1) (v := .ref a2) (C := R_X) (T := F_X) (N := 7) hx hb hg in_X hown hK hP 0 rfl rfl 1 (by decide) (hg _ wg_47) (fun _ h9 => h9) rfl d_X_keep_104 ?_
                refine lv_aload_n hx hb d_X_keep_107 rfl (lv_at hl 4 rfl) ?_
                refine va_get (D := (dC, dI)) (ci := 1) (v := .int n) (C := R_X) (T := F_X) (N := 7) hx hb hg in_X hown hK hP 0 rfl rfl 3 (by decide) (hg _ wg_49) (fun _ h9 => h9) rfl d_X_keep_108 ?_
                refine lv_lload hx hb d_X_keep_111 (lv_at hl 0 rfl) ?_
                refine va_last hx hb hK hP hD hS 2 0 rfl rfl (in_cnt hn0 c_3 (by decide)) d_X_keep_113 (fun H locs hP hD hS => ?_)
                have hP : va_P (dC, dI) classes [(h, .inr (1, [.ref a1, .ref a2, .ref a3, .int n, .ref a4, .int k, .ref a5])), (a1, .inl (cJ, 500, .inr (.inl (vp_updL ab n.toNatClampNeg v_13)))), (a2, .inl (cJ, 500, .inr (.inl (vp_updL be n.toNatClampNeg v_14)))), (a3, .inl (cI, 500, .inl un))] H := hP
                have hD : va_D A [(h, .inr (1, [.ref a1, .ref a2, .ref a3, .int n, .ref a4, .int k, .ref a5])), (a1, .inl (cJ, 500, .inr (.inl (vp_updL ab n.toNatClampNeg v_13)))), (a2, .inl (cJ, 500, .inr (.inl (vp_updL be n.toNatClampNeg v_14)))), (a3, .inl (cI, 500, .inl un))] := hD
                refine lv_aload_n hx hb d_X_keep_114 rfl (lv_at hl 4 rfl) ?_
                refine va_get (D := (dC, dI)) (ci := 1) (v := .ref a3) (C := R_X) (T := F_X) (N := 7) hx hb hg in_X hown hK hP 0 rfl rfl 2 (by decide) (hg _ wg_48) (fun _ h9 => h9) rfl d_X_keep_115 ?_
                refine lv_aload_n hx hb d_X_keep_118 rfl (lv_at hl 4 rfl) ?_
                refine va_get (D := (dC, dI)) (ci := 1) (v := .int n) (C := R_X) (T := F_X) (N := 7) hx hb hg in_X hown hK hP 0 rfl rfl 3 (by decide) (hg _ wg_49) (fun _ h9 => h9) rfl d_X_keep_119 ?_
                refine lv_iload hx hb d_X_keep_122 (lv_at hl 7 rfl) ?_
                refine va_iast hx hb hK hP hD hS 3 1 rfl rfl (in_cnt hn0 c_3 (by decide)) d_X_keep_124 (fun H locs hP hD hS => ?_)
                have hP : va_P (dC, dI) classes [(h, .inr (1, [.ref a1, .ref a2, .ref a3, .int n, .ref a4, .int k, .ref a5])), (a1, .inl (cJ, 500, .inr (.inl (vp_updL ab n.toNatClampNeg v_13)))), (a2, .inl (cJ, 500, .inr (.inl (vp_updL be n.toNatClampNeg v_14)))), (a3, .inl (cI, 500, .inl (upd un n.toNatClampNeg z)))] H := hP
                have hD : va_D A [(h, .inr (1, [.ref a1, .ref a2, .ref a3, .int n, .ref a4, .int k, .ref a5])), (a1, .inl (cJ, 500, .inr (.inl (vp_updL ab n.toNatClampNeg v_13)))), (a2, .inl (cJ, 500, .inr (.inl (vp_updL be n.toNatClampNeg v_14)))), (a3, .inl (cI, 500, .inl (upd un n.toNatClampNeg z)))] := hD
                refine lv_aload_n hx hb d_X_keep_125 rfl (lv_at hl 4 rfl) ?_
                refine lv_dup hx hb d_X_keep_126 rfl ?_
                refine va_get (D := (dC, dI)) (ci := 1) (v := .int n) (C := R_X) (T := F_X) (N := 7) hx hb hg in_X hown hK hP 0 rfl rfl 3 (by decide) (hg _ wg_49) (fun _ h9 => h9) rfl d_X_keep_127 ?_
                refine lv_iconst (v := 1) hx hb d_X_keep_130 (by decide) ?_
                refine lv_iadd hx hb d_X_keep_131 ?_
                refine lv_topi (fun v_19 ev_19 => ?_)
                refine va_put (D := (dC, dI)) (ci := 1) (v := .int v_19) (ty := .int) (C := R_X) (T := F_X) (N := 7) hx hb hg in_X tt_X tt_X_ok nn_X hown hK hP hD hS 0 rfl rfl 3 (by decide) (hg _ wg_49) (fun _ h9 => h9) rfl (by decide +kernel) rfl rfl (Nat.le_of_ble_eq_true rfl) d_X_keep_132 (fun H locs hP hD hS => ?_)
                have hP : va_P (dC, dI) classes [(h, .inr (1, [.ref a1, .ref a2, .ref a3, .int v_19, .ref a4, .int k, .ref a5])), (a1, .inl (cJ, 500, .inr (.inl (vp_updL ab n.toNatClampNeg v_13)))), (a2, .inl (cJ, 500, .inr (.inl (vp_updL be n.toNatClampNeg v_14)))), (a3, .inl (cI, 500, .inl (upd un n.toNatClampNeg z)))] H := hP
                have hD : va_D A [(h, .inr (1, [.ref a1, .ref a2, .ref a3, .int v_19, .ref a4, .int k, .ref a5])), (a1, .inl (cJ, 500, .inr (.inl (vp_updL ab n.toNatClampNeg v_13)))), (a2, .inl (cJ, 500, .inr (.inl (vp_updL be n.toNatClampNeg v_14)))), (a3, .inl (cI, 500, .inl (upd un n.toNatClampNeg z)))] := hD
                refine lv_aload_n hx hb d_X_keep_135 rfl (lv_at hl 4 rfl) ?_
                refine va_get (D := (dC, dI)) (ci := 1) (v := .int v_19) (C := R_X) (T := F_X) (N := 7) hx hb hg in_X hown hK hP 0 rfl rfl 3 (by decide) (hg _ wg_49) (fun _ h9 => h9) rfl d_X_keep_136 ?_
                refine lv_iconst (v := 1) hx hb d_X_keep_139 (by decide) ?_
                refine lv_isub hx hb d_X_keep_140 ?_
                subst ev_19
                subst ev_14
                subst ev_13
                subst ev_12
                subst ev_1
                have hP9 := hP.sub (ws' := [(h, .inr (1, [.ref a1, .ref a2, .ref a3, .int (n + 1), .ref a4, .int k, .ref a5])), (a1, .inl (cJ, 500, .inr (.inl (vp_updL ab n.toNatClampNeg (x / (-(f_X_commonDivisor x y))))))), (a2, .inl (cJ, 500, .inr (.inl (vp_updL be n.toNatClampNeg (y / (-(f_X_commonDivisor x y))))))), (a3, .inl (cI, 500, .inl (upd un n.toNatClampNeg z)))]) [0, 1, 2, 3] rfl
                have hD9 := hD.sub (ws' := [(h, .inr (1, [.ref a1, .ref a2, .ref a3, .int (n + 1), .ref a4, .int k, .ref a5])), (a1, .inl (cJ, 500, .inr (.inl (vp_updL ab n.toNatClampNeg (x / (-(f_X_commonDivisor x y))))))), (a2, .inl (cJ, 500, .inr (.inl (vp_updL be n.toNatClampNeg (y / (-(f_X_commonDivisor x y))))))), (a3, .inl (cI, 500, .inl (upd un n.toNatClampNeg z)))]) [0, 1, 2, 3] (by decide) rfl
                have hz : ((n + 1) - 1, (vp_updL ab n.toNatClampNeg (x / (-(f_X_commonDivisor x y))), vp_updL be n.toNatClampNeg (y / (-(f_X_commonDivisor x y))), upd un n.toNatClampNeg z, (n + 1))) = f_X_keep ab be un n x y z := by unfold f_X_keep; rw [if_neg c_2, if_pos c_3, if_neg c_4, if_neg c_15, if_neg c_16, if_neg c_17, if_pos c_18]
                exact W.iret (v := (n + 1) - 1) hx hb hr (fun t ht hW => ⟨⟨(n + 1) - 1, (vp_updL ab n.toNatClampNeg (x / (-(f_X_commonDivisor x y))), vp_updL be n.toNatClampNeg (y / (-(f_X_commonDivisor x y))), upd un n.toNatClampNeg z, (n + 1)), rfl, hz, wb_of ht hW hP9 hK hD9⟩, hS.F ht⟩) hS.2.2 d_X_keep_141
              · skip
                rw [lg_cmp_le] at c_18
                refine lv_bipush (v := (-2)) hx hb d_X_keep_89 (by decide) ?_
                subst ev_14
                subst ev_13
                subst ev_12
                subst ev_1
                have hP9 := hP.sub (ws' := [(h, .inr (1, [.ref a1, .ref a2, .ref a3, .int n, .ref a4, .int k, .ref a5])), (a1, .inl (cJ, 500, .inr (.inl ab))), (a2, .inl (cJ, 500, .inr (.inl be))), (a3, .inl (cI, 500, .inl un))]) [0, 1, 2, 3] rfl
                have hD9 := hD.sub (ws' := [(h, .inr (1, [.ref a1, .ref a2, .ref a3, .int n, .ref a4, .int k, .ref a5])), (a1, .inl (cJ, 500, .inr (.inl ab))), (a2, .inl (cJ, 500, .inr (.inl be))), (a3, .inl (cI, 500, .inl un))]) [0, 1, 2, 3] (by decide) rfl
                have hz : ((-2), (ab, be, un, n)) = f_X_keep ab be un n x y z := by unfold f_X_keep; rw [if_neg c_2, if_pos c_3, if_neg c_4, if_neg c_15, if_neg c_16, if_neg c_17, if_neg c_18]
                exact W.iret (v := (-2)) hx hb hr (fun t ht hW => ⟨⟨(-2), (ab, be, un, n), rfl, hz, wb_of ht hW hP9 hK hD9⟩, hS.F ht⟩) hS.2.2 d_X_keep_91
    · skip
      refine lv_bipush (v := (-2)) hx hb d_X_keep_24 (by decide) ?_
      subst ev_1
      have hP9 := hP.sub (ws' := [(h, .inr (1, [.ref a1, .ref a2, .ref a3, .int n, .ref a4, .int k, .ref a5])), (a1, .inl (cJ, 500, .inr (.inl ab))), (a2, .inl (cJ, 500, .inr (.inl be))), (a3, .inl (cI, 500, .inl un))]) [0, 1, 2, 3] rfl
      have hD9 := hD.sub (ws' := [(h, .inr (1, [.ref a1, .ref a2, .ref a3, .int n, .ref a4, .int k, .ref a5])), (a1, .inl (cJ, 500, .inr (.inl ab))), (a2, .inl (cJ, 500, .inr (.inl be))), (a3, .inl (cI, 500, .inl un))]) [0, 1, 2, 3] (by decide) rfl
      have hz : ((-2), (ab, be, un, n)) = f_X_keep ab be un n x y z := by unfold f_X_keep; rw [if_neg c_2, if_neg c_3]
      exact W.iret (v := (-2)) hx hb hr (fun t ht hW => ⟨⟨(-2), (ab, be, un, n), rfl, hz, wb_of ht hW hP9 hK hD9⟩, hS.F ht⟩) hS.2.2 d_X_keep_26
end
section
def f_X_add (ab be : Nat → Int64) (un : Nat → Int32) (n : Int32) (a : Int32) (b : Int32) : Int32 × (Nat → Int64) × (Nat → Int64) × (Nat → Int32) × Int32 := if (f_X_isAmount a n) = 0 then ((-3), (ab, be, un, n)) else if (f_X_isAmount b n) = 0 then ((-3), (ab, be, un, n)) else if (un a.toNatClampNeg) = (un b.toNatClampNeg) then (f_X_keep ab be un n (((ab a.toNatClampNeg) * (be b.toNatClampNeg)) + ((ab b.toNatClampNeg) * (be a.toNatClampNeg))) ((be a.toNatClampNeg) * (be b.toNatClampNeg)) (un a.toNatClampNeg)) else ((-1), (ab, be, un, n))
set_option maxHeartbeats 4000000 in
set_option maxRecDepth 100000 in
theorem k_X_add (l : Launch) (dC : Nat → ClassId) (dI : Nat → Nat → Nat) (cJ cI cT : ClassId) (h a1 a2 a3 a4 a5 : Nat) (n k : Int32) (ab be : Nat → Int64) (un : Nat → Int32) (a : Int32) (b : Int32) (sz : Nat) (hn0 : 0 ≤ n.toInt) (hn : n.toInt ≤ (500 : Nat)) : Met l y_X_add w_X_add ({ frames := 3, cells := 0, slots := 0, locals := 84 }) (va_Pc [.ref h, .int a, .int b] (wx dC dI cJ cI cT sz [(h, .inr (1, [.ref a1, .ref a2, .ref a3, .int n, .ref a4, .int k, .ref a5])), (a1, .inl (cJ, 500, .inr (.inl ab))), (a2, .inl (cJ, 500, .inr (.inl be))), (a3, .inl (cI, 500, .inl un))])) (va_Qi (fun (r9 : Int32) (u9 : (Nat → Int64) × (Nat → Int64) × (Nat → Int32) × Int32) => (r9, u9) = f_X_add ab be un n a b) (fun u => wb dC dI cJ cI cT (va_A [(h, .inr (1, [.ref a1, .ref a2, .ref a3, .int n, .ref a4, .int k, .ref a5])), (a1, .inl (cJ, 500, .inr (.inl ab))), (a2, .inl (cJ, 500, .inr (.inl be))), (a3, .inl (cI, 500, .inl un))] sz) [(h, .inr (1, [.ref a1, .ref a2, .ref a3, .int u.2.2.2, .ref a4, .int k, .ref a5])), (a1, .inl (cJ, 500, .inr (.inl u.1))), (a2, .inl (cJ, 500, .inr (.inl u.2.1))), (a3, .inl (cI, 500, .inl u.2.2.1))]) (va_A [(h, .inr (1, [.ref a1, .ref a2, .ref a3, .int n, .ref a4, .int k, .ref a5])), (a1, .inl (cJ, 500, .inr (.inl ab))), (a2, .inl (cJ, 500, .inr (.inl be))), (a3, .inl (cI, 500, .inl un))] sz)) 0 0 (va_A [(h, .inr (1, [.ref a1, .ref a2, .ref a3, .int n, .ref a4, .int k, .ref a5])), (a1, .inl (cJ, 500, .inr (.inl ab))), (a2, .inl (cJ, 500, .inr (.inl be))), (a3, .inl (cI, 500, .inl un))] sz) := by
  refine Met.ofW (cc := c_X_add) (maxL := 3) (ret := (Option.some Jvm.ClassFile.FieldType.int)) (by decide) rfl ?_
  intro p e s m args below meth c s₁ B hml hv
  obtain ⟨rfl, hsz, hP, hK, hD0⟩ := hv
  have hx := B.exec
  have hb := B.bytes
  have hr := B.returns
  have hts := atoms_spec (ws := w_X_add) B.pre
  have hg : ∀ w ∈ WG, w.before _ s = true := fun w h => hts w (List.mem_cons_of_mem _ h)
  have hown : s.vm.findClass R_X = some m.cls := findClass_of_methodNamed B.named
  have hlocks := B.notSynchronized
  have hl := lv_entry ([.ref h, .int a, .int b]) (n := 3) (Nat.le_of_ble_eq_true rfl)
  rw [lg_entry_eq]
  generalize (lg_sl ([.ref h, .int a, .int b]) ++ List.replicate (3 - (lg_sl ([.ref h, .int a, .int b])).length) Slot.unset).toArray = ls at hl ⊢
  have hl : lv_has ls 3 [(0, .ref h), (1, .int a), (2, .int b)] := hl
  subst hsz
  have hD := hD0.self (sz := s.heap.size)
  generalize hAe : va_A [(h, .inr (1, [.ref a1, .ref a2, .ref a3, .int n, .ref a4, .int k, .ref a5])), (a1, .inl (cJ, 500, .inr (.inl ab))), (a2, .inl (cJ, 500, .inr (.inl be))), (a3, .inl (cI, 500, .inl un))] s.heap.size = A at hD ⊢
  have hA : ∀ q : Nat, s.heap.size ≤ q → A q := fun q h => by rw [← hAe]; exact Or.inr h
  have hS : va_S A s.heap s.heap [] := va_S.rf
  have hP : va_P (dC, dI) classes [(h, .inr (1, [.ref a1, .ref a2, .ref a3, .int n, .ref a4, .int k, .ref a5])), (a1, .inl (cJ, 500, .inr (.inl ab))), (a2, .inl (cJ, 500, .inr (.inl be))), (a3, .inl (cI, 500, .inl un))] s.heap := hP
  have hD : va_D A [(h, .inr (1, [.ref a1, .ref a2, .ref a3, .int n, .ref a4, .int k, .ref a5])), (a1, .inl (cJ, 500, .inr (.inl ab))), (a2, .inl (cJ, 500, .inr (.inl be))), (a3, .inl (cI, 500, .inl un))] := hD
  skip
  refine lv_aload_n hx hb d_X_add_0 rfl (lv_at hl 0 rfl) ?_
  refine lv_iload_n hx hb d_X_add_1 rfl (lv_at hl 1 rfl) ?_
  have hPc := hP.sub (ws' := [(h, .inr (1, [.ref a1, .ref a2, .ref a3, .int n, .ref a4, .int k, .ref a5]))]) [0] rfl
  refine W.callV (W.runV (As := [.int a]) (rest := []) ⟨hx, hb, hml, hown, hg⟩ (k_X_isAmount l dC dI cJ cI cT h a1 a2 a3 a4 a5 n k a) (q_V 1 hg wg_66 wg_64 wg_65 wg_0 wg_13 rfl rfl (by decide +kernel) ⟨Nat.le_of_ble_eq_true rfl, Nat.le_of_ble_eq_true rfl⟩) ⟨wd_blind, va_recv hK hPc (ci := 1) (q0 := 0) rfl rfl, wd_pre (as := .ref h :: [.int a]) hPc hK⟩ rfl rfl hl.1 rfl (lv_room (Nat.le_of_ble_eq_true rfl)) d_X_add_2 ⟨Nat.le_of_ble_eq_true rfl, Nat.le_of_ble_eq_true rfl⟩) ?_
  refine W.eq (g2 := F0 m 5 ls (.int (f_X_isAmount a n) :: [])) rfl ?_
  refine lv_if_eq (tgt := 16) hx hb d_X_add_5 (by decide) (fun c_1 => ?_) (fun c_1 => ?_)
  · skip
    refine lv_bipush (v := (-3)) hx hb d_X_add_16 (by decide) ?_
    have hP9 := hP.sub (ws' := [(h, .inr (1, [.ref a1, .ref a2, .ref a3, .int n, .ref a4, .int k, .ref a5])), (a1, .inl (cJ, 500, .inr (.inl ab))), (a2, .inl (cJ, 500, .inr (.inl be))), (a3, .inl (cI, 500, .inl un))]) [0, 1, 2, 3] rfl
    have hD9 := hD.sub (ws' := [(h, .inr (1, [.ref a1, .ref a2, .ref a3, .int n, .ref a4, .int k, .ref a5])), (a1, .inl (cJ, 500, .inr (.inl ab))), (a2, .inl (cJ, 500, .inr (.inl be))), (a3, .inl (cI, 500, .inl un))]) [0, 1, 2, 3] (by decide) rfl
    have hz : ((-3), (ab, be, un, n)) = f_X_add ab be un n a b := by unfold f_X_add; rw [if_pos c_1]
    exact W.iret (v := (-3)) hx hb hr (fun t ht hW => ⟨⟨(-3), (ab, be, un, n), rfl, hz, wb_of ht hW hP9 hK hD9⟩, hS.F ht⟩) hS.2.2 d_X_add_18
  · skip
    refine lv_aload_n hx hb d_X_add_8 rfl (lv_at hl 0 rfl) ?_
    refine lv_iload_n hx hb d_X_add_9 rfl (lv_at hl 2 rfl) ?_
    have hPc := hP.sub (ws' := [(h, .inr (1, [.ref a1, .ref a2, .ref a3, .int n, .ref a4, .int k, .ref a5]))]) [0] rfl
    refine W.callV (W.runV (As := [.int b]) (rest := []) ⟨hx, hb, hml, hown, hg⟩ (k_X_isAmount l dC dI cJ cI cT h a1 a2 a3 a4 a5 n k b) (q_V 1 hg wg_66 wg_64 wg_65 wg_0 wg_13 rfl rfl (by decide +kernel) ⟨Nat.le_of_ble_eq_true rfl, Nat.le_of_ble_eq_true rfl⟩) ⟨wd_blind, va_recv hK hPc (ci := 1) (q0 := 0) rfl rfl, wd_pre (as := .ref h :: [.int b]) hPc hK⟩ rfl rfl hl.1 rfl (lv_room (Nat.le_of_ble_eq_true rfl)) d_X_add_10 ⟨Nat.le_of_ble_eq_true rfl, Nat.le_of_ble_eq_true rfl⟩) ?_
    refine W.eq (g2 := F0 m 13 ls (.int (f_X_isAmount b n) :: [])) rfl ?_
    refine lv_if_ne (tgt := 19) hx hb d_X_add_13 (by decide) (fun c_2 => ?_) (fun c_2 => ?_)
    · skip
      refine lv_aload_n hx hb d_X_add_19 rfl (lv_at hl 0 rfl) ?_
      refine va_get (D := (dC, dI)) (ci := 1) (v := .ref a3) (C := R_X) (T := F_X) (N := 7) hx hb hg in_X hown hK hP 0 rfl rfl 2 (by decide) (hg _ wg_48) (fun _ h9 => h9) rfl d_X_add_20 ?_
      refine lv_iload_n hx hb d_X_add_23 rfl (lv_at hl 1 rfl) ?_
      refine va_iald hx hb hK hP 3 1 rfl rfl (am_in c_1 hn) d_X_add_24 ?_
      refine lv_aload_n hx hb d_X_add_25 rfl (lv_at hl 0 rfl) ?_
      refine va_get (D := (dC, dI)) (ci := 1) (v := .ref a3) (C := R_X) (T := F_X) (N := 7) hx hb hg in_X hown hK hP 0 rfl rfl 2 (by decide) (hg _ wg_48) (fun _ h9 => h9) rfl d_X_add_26 ?_
      refine lv_iload_n hx hb d_X_add_29 rfl (lv_at hl 2 rfl) ?_
      refine va_iald hx hb hK hP 3 1 rfl rfl (am_in c_2 hn) d_X_add_30 ?_
      refine lv_icmp_eq (tgt := 36) hx hb d_X_add_31 (by decide) (fun c_3 => ?_) (fun c_3 => ?_)
      · skip
        refine lv_aload_n hx hb d_X_add_36 rfl (lv_at hl 0 rfl) ?_
        refine lv_aload_n hx hb d_X_add_37 rfl (lv_at hl 0 rfl) ?_
        refine va_get (D := (dC, dI)) (ci := 1) (v := .ref a1) (C := R_X) (T := F_X) (N := 7) hx hb hg in_X hown hK hP 0 rfl rfl 0 (by decide) (hg _ wg_46) (fun _ h9 => h9) rfl d_X_add_38 ?_
        refine lv_iload_n hx hb d_X_add_41 rfl (lv_at hl 1 rfl) ?_
        refine va_lald hx hb hK hP 1 0 rfl rfl (am_in c_1 hn) d_X_add_42 ?_
        refine lv_aload_n hx hb d_X_add_43 rfl (lv_at hl 0 rfl) ?_
        refine va_get (D := (dC, dI)) (ci := 1) (v := .ref a2) (C := R_X) (T := F_X) (N := 7) hx hb hg in_X hown hK hP 0 rfl rfl 1 (by decide) (hg _ wg_47) (fun _ h9 => h9) rfl d_X_add_44 ?_
        refine lv_iload_n hx hb d_X_add_47 rfl (lv_at hl 2 rfl) ?_
        refine va_lald hx hb hK hP 2 0 rfl rfl (am_in c_2 hn) d_X_add_48 ?_
        refine lv_lmul hx hb d_X_add_49 ?_
        refine lv_aload_n hx hb d_X_add_50 rfl (lv_at hl 0 rfl) ?_
        refine va_get (D := (dC, dI)) (ci := 1) (v := .ref a1) (C := R_X) (T := F_X) (N := 7) hx hb hg in_X hown hK hP 0 rfl rfl 0 (by decide) (hg _ wg_46) (fun _ h9 => h9) rfl d_X_add_51 ?_
        refine lv_iload_n hx hb d_X_add_54 rfl (lv_at hl 2 rfl) ?_
        refine va_lald hx hb hK hP 1 0 rfl rfl (am_in c_2 hn) d_X_add_55 ?_
        refine lv_aload_n hx hb d_X_add_56 rfl (lv_at hl 0 rfl) ?_
        refine va_get (D := (dC, dI)) (ci := 1) (v := .ref a2) (C := R_X) (T := F_X) (N := 7) hx hb hg in_X hown hK hP 0 rfl rfl 1 (by decide) (hg _ wg_47) (fun _ h9 => h9) rfl d_X_add_57 ?_
        refine lv_iload_n hx hb d_X_add_60 rfl (lv_at hl 1 rfl) ?_
        refine va_lald hx hb hK hP 2 0 rfl rfl (am_in c_1 hn) d_X_add_61 ?_
        refine lv_lmul hx hb d_X_add_62 ?_
        refine lv_ladd hx hb d_X_add_63 ?_
        refine lv_aload_n hx hb d_X_add_64 rfl (lv_at hl 0 rfl) ?_
        refine va_get (D := (dC, dI)) (ci := 1) (v := .ref a2) (C := R_X) (T := F_X) (N := 7) hx hb hg in_X hown hK hP 0 rfl rfl 1 (by decide) (hg _ wg_47) (fun _ h9 => h9) rfl d_X_add_65 ?_
        refine lv_iload_n hx hb d_X_add_68 rfl (lv_at hl 1 rfl) ?_
        refine va_lald hx hb hK hP 2 0 rfl rfl (am_in c_1 hn) d_X_add_69 ?_
        refine lv_aload_n hx hb d_X_add_70 rfl (lv_at hl 0 rfl) ?_
        refine va_get (D := (dC, dI)) (ci := 1) (v := .ref a2) (C := R_X) (T := F_X) (N := 7) hx hb hg in_X hown hK hP 0 rfl rfl 1 (by decide) (hg _ wg_47) (fun _ h9 => h9) rfl d_X_add_71 ?_
        refine lv_iload_n hx hb d_X_add_74 rfl (lv_at hl 2 rfl) ?_
        refine va_lald hx hb hK hP 2 0 rfl rfl (am_in c_2 hn) d_X_add_75 ?_
        refine lv_lmul hx hb d_X_add_76 ?_
        refine lv_aload_n hx hb d_X_add_77 rfl (lv_at hl 0 rfl) ?_
        refine va_get (D := (dC, dI)) (ci := 1) (v := .ref a3) (C := R_X) (T := F_X) (N := 7) hx hb hg in_X hown hK hP 0 rfl rfl 2 (by decide) (hg _ wg_48) (fun _ h9 => h9) rfl d_X_add_78 ?_
        refine lv_iload_n hx hb d_X_add_81 rfl (lv_at hl 1 rfl) ?_
        refine va_iald hx hb hK hP 3 1 rfl rfl (am_in c_1 hn) d_X_add_82 ?_
        have hPc := hP.sub (ws' := [(h, .inr (1, [.ref a1, .ref a2, .ref a3, .int n, .ref a4, .int k, .ref a5])), (a1, .inl (cJ, 500, .inr (.inl ab))), (a2, .inl (cJ, 500, .inr (.inl be))), (a3, .inl (cI, 500, .inl un))]) [0, 1, 2, 3] rfl
        have hDc := hD.sub (ws' := [(h, .inr (1, [.ref a1, .ref a2, .ref a3, .int n, .ref a4, .int k, .ref a5])), (a1, .inl (cJ, 500, .inr (.inl ab))), (a2, .inl (cJ, 500, .inr (.inl be))), (a3, .inl (cI, 500, .inl un))]) [0, 1, 2, 3] (by decide) rfl
        have hFc := va_free (wc := [(h, .inr (1, [.ref a1, .ref a2, .ref a3, .int n, .ref a4, .int k, .ref a5])), (a1, .inl (cJ, 500, .inr (.inl ab))), (a2, .inl (cJ, 500, .inr (.inl be))), (a3, .inl (cI, 500, .inl un))]) hD hS hA [0, 1, 2, 3] rfl
        refine va_calli (va_runV (As := [.long (((ab a.toNatClampNeg) * (be b.toNatClampNeg)) + ((ab b.toNatClampNeg) * (be a.toNatClampNeg))), .long ((be a.toNatClampNeg) * (be b.toNatClampNeg)), .int (un a.toNatClampNeg)]) (rest := []) ⟨hx, hb, hml, hown, hg⟩ (k_X_keep l dC dI cJ cI cT h a1 a2 a3 a4 a5 n k ab be un (((ab a.toNatClampNeg) * (be b.toNatClampNeg)) + ((ab b.toNatClampNeg) * (be a.toNatClampNeg))) ((be a.toNatClampNeg) * (be b.toNatClampNeg)) (un a.toNatClampNeg) _ hn0) (q_V 3 hg wg_69 wg_67 wg_68 wg_1 wg_13 rfl rfl (by decide +kernel) ⟨Nat.le_of_ble_eq_true rfl, Nat.le_of_ble_eq_true rfl⟩) ⟨wx_blind, va_recv hK hPc (ci := 1) (q0 := 0) rfl rfl, wx_pre (as := .ref h :: [.long (((ab a.toNatClampNeg) * (be b.toNatClampNeg)) + ((ab b.toNatClampNeg) * (be a.toNatClampNeg))), .long ((be a.toNatClampNeg) * (be b.toNatClampNeg)), .int (un a.toNatClampNeg)]) hPc hK hDc⟩ rfl rfl hl.1 rfl (lv_room (Nat.le_of_ble_eq_true rfl)) d_X_add_83 ⟨Nat.le_of_ble_eq_true rfl, Nat.le_of_ble_eq_true rfl⟩) hS (fun q _ h => hFc q h) hFc (fun r_8 u t H1 locs ht hvm hw_9 hB hz1 hk1 hS => ?_)
        obtain ⟨ab_4, be_5, un_6, n_7⟩ := u
        obtain ⟨hP1, hK1, hD1⟩ := hB
        rw [ht] at hP1
        obtain ⟨hP, hD⟩ := va_join (wr := []) (w1 := [(h, .inr (1, [.ref a1, .ref a2, .ref a3, .int n_7, .ref a4, .int k, .ref a5])), (a1, .inl (cJ, 500, .inr (.inl ab_4))), (a2, .inl (cJ, 500, .inr (.inl be_5))), (a3, .inl (cI, 500, .inl un_6))]) hP hD [0, 1, 2, 3] [] rfl rfl (by decide) (by decide) hk1 hFc hP1 hD1
        generalize H1 = H at hP hS ⊢
        have hP : va_P (dC, dI) classes [(h, .inr (1, [.ref a1, .ref a2, .ref a3, .int n_7, .ref a4, .int k, .ref a5])), (a1, .inl (cJ, 500, .inr (.inl ab_4))), (a2, .inl (cJ, 500, .inr (.inl be_5))), (a3, .inl (cI, 500, .inl un_6))] H := hP
        have hD : va_D A [(h, .inr (1, [.ref a1, .ref a2, .ref a3, .int n_7, .ref a4, .int k, .ref a5])), (a1, .inl (cJ, 500, .inr (.inl ab_4))), (a2, .inl (cJ, 500, .inr (.inl be_5))), (a3, .inl (cI, 500, .inl un_6))] := hD
        have hP9 := hP.sub (ws' := [(h, .inr (1, [.ref a1, .ref a2, .ref a3, .int n_7, .ref a4, .int k, .ref a5])), (a1, .inl (cJ, 500, .inr (.inl ab_4))), (a2, .inl (cJ, 500, .inr (.inl be_5))), (a3, .inl (cI, 500, .inl un_6))]) [0, 1, 2, 3] rfl
        have hD9 := hD.sub (ws' := [(h, .inr (1, [.ref a1, .ref a2, .ref a3, .int n_7, .ref a4, .int k, .ref a5])), (a1, .inl (cJ, 500, .inr (.inl ab_4))), (a2, .inl (cJ, 500, .inr (.inl be_5))), (a3, .inl (cI, 500, .inl un_6))]) [0, 1, 2, 3] (by decide) rfl
        have hz : (r_8, (ab_4, be_5, un_6, n_7)) = f_X_add ab be un n a b := by unfold f_X_add; rw [if_neg c_1, if_neg c_2, if_pos c_3]; exact hw_9
        exact W.iret (v := r_8) hx hb hr (fun t ht hW => ⟨⟨r_8, (ab_4, be_5, un_6, n_7), rfl, hz, wb_of ht hW hP9 hK hD9⟩, hS.F ht⟩) hS.2.2 d_X_add_86
      · skip
        refine lv_iconst (v := (-1)) hx hb d_X_add_34 (by decide) ?_
        have hP9 := hP.sub (ws' := [(h, .inr (1, [.ref a1, .ref a2, .ref a3, .int n, .ref a4, .int k, .ref a5])), (a1, .inl (cJ, 500, .inr (.inl ab))), (a2, .inl (cJ, 500, .inr (.inl be))), (a3, .inl (cI, 500, .inl un))]) [0, 1, 2, 3] rfl
        have hD9 := hD.sub (ws' := [(h, .inr (1, [.ref a1, .ref a2, .ref a3, .int n, .ref a4, .int k, .ref a5])), (a1, .inl (cJ, 500, .inr (.inl ab))), (a2, .inl (cJ, 500, .inr (.inl be))), (a3, .inl (cI, 500, .inl un))]) [0, 1, 2, 3] (by decide) rfl
        have hz : ((-1), (ab, be, un, n)) = f_X_add ab be un n a b := by unfold f_X_add; rw [if_neg c_1, if_neg c_2, if_neg c_3]
        exact W.iret (v := (-1)) hx hb hr (fun t ht hW => ⟨⟨(-1), (ab, be, un, n), rfl, hz, wb_of ht hW hP9 hK hD9⟩, hS.F ht⟩) hS.2.2 d_X_add_35
    · skip
      refine lv_bipush (v := (-3)) hx hb d_X_add_16 (by decide) ?_
      have hP9 := hP.sub (ws' := [(h, .inr (1, [.ref a1, .ref a2, .ref a3, .int n, .ref a4, .int k, .ref a5])), (a1, .inl (cJ, 500, .inr (.inl ab))), (a2, .inl (cJ, 500, .inr (.inl be))), (a3, .inl (cI, 500, .inl un))]) [0, 1, 2, 3] rfl
      have hD9 := hD.sub (ws' := [(h, .inr (1, [.ref a1, .ref a2, .ref a3, .int n, .ref a4, .int k, .ref a5])), (a1, .inl (cJ, 500, .inr (.inl ab))), (a2, .inl (cJ, 500, .inr (.inl be))), (a3, .inl (cI, 500, .inl un))]) [0, 1, 2, 3] (by decide) rfl
      have hz : ((-3), (ab, be, un, n)) = f_X_add ab be un n a b := by unfold f_X_add; rw [if_neg c_1, if_pos c_2]
      exact W.iret (v := (-3)) hx hb hr (fun t ht hW => ⟨⟨(-3), (ab, be, un, n), rfl, hz, wb_of ht hW hP9 hK hD9⟩, hS.F ht⟩) hS.2.2 d_X_add_18
def f_X_times (ab be : Nat → Int64) (un : Nat → Int32) (n : Int32) (a : Int32) (b : Int32) : Int32 × (Nat → Int64) × (Nat → Int64) × (Nat → Int32) × Int32 := if (f_X_isAmount a n) = 0 then ((-3), (ab, be, un, n)) else if (f_X_isAmount b n) = 0 then ((-3), (ab, be, un, n)) else if (f_X_unitOfProduct (un a.toNatClampNeg) (un b.toNatClampNeg)) = (-1) then ((-1), (ab, be, un, n)) else (f_X_keep ab be un n ((ab a.toNatClampNeg) * (ab b.toNatClampNeg)) ((be a.toNatClampNeg) * (be b.toNatClampNeg)) (f_X_unitOfProduct (un a.toNatClampNeg) (un b.toNatClampNeg)))
set_option maxHeartbeats 4000000 in
set_option maxRecDepth 100000 in
theorem k_X_times (l : Launch) (dC : Nat → ClassId) (dI : Nat → Nat → Nat) (cJ cI cT : ClassId) (h a1 a2 a3 a4 a5 : Nat) (n k : Int32) (ab be : Nat → Int64) (un : Nat → Int32) (a : Int32) (b : Int32) (sz : Nat) (hn0 : 0 ≤ n.toInt) (hn : n.toInt ≤ (500 : Nat)) : Met l y_X_times w_X_times ({ frames := 3, cells := 0, slots := 0, locals := 84 }) (va_Pc [.ref h, .int a, .int b] (wx dC dI cJ cI cT sz [(h, .inr (1, [.ref a1, .ref a2, .ref a3, .int n, .ref a4, .int k, .ref a5])), (a1, .inl (cJ, 500, .inr (.inl ab))), (a2, .inl (cJ, 500, .inr (.inl be))), (a3, .inl (cI, 500, .inl un))])) (va_Qi (fun (r9 : Int32) (u9 : (Nat → Int64) × (Nat → Int64) × (Nat → Int32) × Int32) => (r9, u9) = f_X_times ab be un n a b) (fun u => wb dC dI cJ cI cT (va_A [(h, .inr (1, [.ref a1, .ref a2, .ref a3, .int n, .ref a4, .int k, .ref a5])), (a1, .inl (cJ, 500, .inr (.inl ab))), (a2, .inl (cJ, 500, .inr (.inl be))), (a3, .inl (cI, 500, .inl un))] sz) [(h, .inr (1, [.ref a1, .ref a2, .ref a3, .int u.2.2.2, .ref a4, .int k, .ref a5])), (a1, .inl (cJ, 500, .inr (.inl u.1))), (a2, .inl (cJ, 500, .inr (.inl u.2.1))), (a3, .inl (cI, 500, .inl u.2.2.1))]) (va_A [(h, .inr (1, [.ref a1, .ref a2, .ref a3, .int n, .ref a4, .int k, .ref a5])), (a1, .inl (cJ, 500, .inr (.inl ab))), (a2, .inl (cJ, 500, .inr (.inl be))), (a3, .inl (cI, 500, .inl un))] sz)) 0 0 (va_A [(h, .inr (1, [.ref a1, .ref a2, .ref a3, .int n, .ref a4, .int k, .ref a5])), (a1, .inl (cJ, 500, .inr (.inl ab))), (a2, .inl (cJ, 500, .inr (.inl be))), (a3, .inl (cI, 500, .inl un))] sz) := by
  refine Met.ofW (cc := c_X_times) (maxL := 4) (ret := (Option.some Jvm.ClassFile.FieldType.int)) (by decide) rfl ?_
  intro p e s m args below meth c s₁ B hml hv
  obtain ⟨rfl, hsz, hP, hK, hD0⟩ := hv
  have hx := B.exec
  have hb := B.bytes
  have hr := B.returns
  have hts := atoms_spec (ws := w_X_times) B.pre
  have hg : ∀ w ∈ WG, w.before _ s = true := fun w h => hts w (List.mem_cons_of_mem _ h)
  have hown : s.vm.findClass R_X = some m.cls := findClass_of_methodNamed B.named
  have hlocks := B.notSynchronized
  have hl := lv_entry ([.ref h, .int a, .int b]) (n := 4) (Nat.le_of_ble_eq_true rfl)
  rw [lg_entry_eq]
  generalize (lg_sl ([.ref h, .int a, .int b]) ++ List.replicate (4 - (lg_sl ([.ref h, .int a, .int b])).length) Slot.unset).toArray = ls at hl ⊢
  have hl : lv_has ls 4 [(0, .ref h), (1, .int a), (2, .int b)] := hl
  subst hsz
  have hD := hD0.self (sz := s.heap.size)
  generalize hAe : va_A [(h, .inr (1, [.ref a1, .ref a2, .ref a3, .int n, .ref a4, .int k, .ref a5])), (a1, .inl (cJ, 500, .inr (.inl ab))), (a2, .inl (cJ, 500, .inr (.inl be))), (a3, .inl (cI, 500, .inl un))] s.heap.size = A at hD ⊢
  have hA : ∀ q : Nat, s.heap.size ≤ q → A q := fun q h => by rw [← hAe]; exact Or.inr h
  have hS : va_S A s.heap s.heap [] := va_S.rf
  have hP : va_P (dC, dI) classes [(h, .inr (1, [.ref a1, .ref a2, .ref a3, .int n, .ref a4, .int k, .ref a5])), (a1, .inl (cJ, 500, .inr (.inl ab))), (a2, .inl (cJ, 500, .inr (.inl be))), (a3, .inl (cI, 500, .inl un))] s.heap := hP
  have hD : va_D A [(h, .inr (1, [.ref a1, .ref a2, .ref a3, .int n, .ref a4, .int k, .ref a5])), (a1, .inl (cJ, 500, .inr (.inl ab))), (a2, .inl (cJ, 500, .inr (.inl be))), (a3, .inl (cI, 500, .inl un))] := hD
  skip
  refine lv_aload_n hx hb d_X_times_0 rfl (lv_at hl 0 rfl) ?_
  refine lv_iload_n hx hb d_X_times_1 rfl (lv_at hl 1 rfl) ?_
  have hPc := hP.sub (ws' := [(h, .inr (1, [.ref a1, .ref a2, .ref a3, .int n, .ref a4, .int k, .ref a5]))]) [0] rfl
  refine W.callV (W.runV (As := [.int a]) (rest := []) ⟨hx, hb, hml, hown, hg⟩ (k_X_isAmount l dC dI cJ cI cT h a1 a2 a3 a4 a5 n k a) (q_V 1 hg wg_66 wg_64 wg_65 wg_0 wg_13 rfl rfl (by decide +kernel) ⟨Nat.le_of_ble_eq_true rfl, Nat.le_of_ble_eq_true rfl⟩) ⟨wd_blind, va_recv hK hPc (ci := 1) (q0 := 0) rfl rfl, wd_pre (as := .ref h :: [.int a]) hPc hK⟩ rfl rfl hl.1 rfl (lv_room (Nat.le_of_ble_eq_true rfl)) d_X_times_2 ⟨Nat.le_of_ble_eq_true rfl, Nat.le_of_ble_eq_true rfl⟩) ?_
  refine W.eq (g2 := F0 m 5 ls (.int (f_X_isAmount a n) :: [])) rfl ?_
  refine lv_if_eq (tgt := 16) hx hb d_X_times_5 (by decide) (fun c_1 => ?_) (fun c_1 => ?_)
  · skip
    refine lv_bipush (v := (-3)) hx hb d_X_times_16 (by decide) ?_
    have hP9 := hP.sub (ws' := [(h, .inr (1, [.ref a1, .ref a2, .ref a3, .int n, .ref a4, .int k, .ref a5])), (a1, .inl (cJ, 500, .inr (.inl ab))), (a2, .inl (cJ, 500, .inr (.inl be))), (a3, .inl (cI, 500, .inl un))]) [0, 1, 2, 3] rfl
    have hD9 := hD.sub (ws' := [(h, .inr (1, [.ref a1, .ref a2, .ref a3, .int n, .ref a4, .int k, .ref a5])), (a1, .inl (cJ, 500, .inr (.inl ab))), (a2, .inl (cJ, 500, .inr (.inl be))), (a3, .inl (cI, 500, .inl un))]) [0, 1, 2, 3] (by decide) rfl
    have hz : ((-3), (ab, be, un, n)) = f_X_times ab be un n a b := by unfold f_X_times; rw [if_pos c_1]
    exact W.iret (v := (-3)) hx hb hr (fun t ht hW => ⟨⟨(-3), (ab, be, un, n), rfl, hz, wb_of ht hW hP9 hK hD9⟩, hS.F ht⟩) hS.2.2 d_X_times_18
  · skip
    refine lv_aload_n hx hb d_X_times_8 rfl (lv_at hl 0 rfl) ?_
    refine lv_iload_n hx hb d_X_times_9 rfl (lv_at hl 2 rfl) ?_
    have hPc := hP.sub (ws' := [(h, .inr (1, [.ref a1, .ref a2, .ref a3, .int n, .ref a4, .int k, .ref a5]))]) [0] rfl
    refine W.callV (W.runV (As := [.int b]) (rest := []) ⟨hx, hb, hml, hown, hg⟩ (k_X_isAmount l dC dI cJ cI cT h a1 a2 a3 a4 a5 n k b) (q_V 1 hg wg_66 wg_64 wg_65 wg_0 wg_13 rfl rfl (by decide +kernel) ⟨Nat.le_of_ble_eq_true rfl, Nat.le_of_ble_eq_true rfl⟩) ⟨wd_blind, va_recv hK hPc (ci := 1) (q0 := 0) rfl rfl, wd_pre (as := .ref h :: [.int b]) hPc hK⟩ rfl rfl hl.1 rfl (lv_room (Nat.le_of_ble_eq_true rfl)) d_X_times_10 ⟨Nat.le_of_ble_eq_true rfl, Nat.le_of_ble_eq_true rfl⟩) ?_
    refine W.eq (g2 := F0 m 13 ls (.int (f_X_isAmount b n) :: [])) rfl ?_
    refine lv_if_ne (tgt := 19) hx hb d_X_times_13 (by decide) (fun c_2 => ?_) (fun c_2 => ?_)
    · skip
      refine lv_aload_n hx hb d_X_times_19 rfl (lv_at hl 0 rfl) ?_
      refine va_get (D := (dC, dI)) (ci := 1) (v := .ref a3) (C := R_X) (T := F_X) (N := 7) hx hb hg in_X hown hK hP 0 rfl rfl 2 (by decide) (hg _ wg_48) (fun _ h9 => h9) rfl d_X_times_20 ?_
      refine lv_iload_n hx hb d_X_times_23 rfl (lv_at hl 1 rfl) ?_
      refine va_iald hx hb hK hP 3 1 rfl rfl (am_in c_1 hn) d_X_times_24 ?_
      refine lv_aload_n hx hb d_X_times_25 rfl (lv_at hl 0 rfl) ?_
      refine va_get (D := (dC, dI)) (ci := 1) (v := .ref a3) (C := R_X) (T := F_X) (N := 7) hx hb hg in_X hown hK hP 0 rfl rfl 2 (by decide) (hg _ wg_48) (fun _ h9 => h9) rfl d_X_times_26 ?_
      refine lv_iload_n hx hb d_X_times_29 rfl (lv_at hl 2 rfl) ?_
      refine va_iald hx hb hK hP 3 1 rfl rfl (am_in c_2 hn) d_X_times_30 ?_
      refine W.callV (W.runS (As := [.int (un a.toNatClampNeg), .int (un b.toNatClampNeg)]) (rest := []) ⟨hx, hb, hml, hown, hg⟩ (k_X_unitOfProduct l (un a.toNatClampNeg) (un b.toNatClampNeg)) (q_S 2 hg wg_84 wg_82 wg_83 wg_13 rfl rfl (by decide +kernel) ⟨Nat.le_of_ble_eq_true rfl, Nat.le_of_ble_eq_true rfl⟩) ⟨nw_blind, fun _ _ _ => ⟨rfl, trivial⟩⟩ rfl rfl hl.1 rfl (lv_room (Nat.le_of_ble_eq_true rfl)) d_X_times_31 ⟨Nat.le_of_ble_eq_true rfl, Nat.le_of_ble_eq_true rfl⟩) ?_
      refine W.eq (g2 := F0 m 34 ls (.int (f_X_unitOfProduct (un a.toNatClampNeg) (un b.toNatClampNeg)) :: [])) rfl ?_
      refine lv_topi (fun v_3 ev_3 => ?_)
      refine lv_istore_n (lv' := [(3, .int v_3), (0, .ref h), (1, .int a), (2, .int b)]) hx hb d_X_times_34 rfl hl (by decide) rfl (fun ls hl => ?_)
      refine lv_iload_n hx hb d_X_times_35 rfl (lv_at hl 0 rfl) ?_
      refine lv_iconst (v := (-1)) hx hb d_X_times_36 (by decide) ?_
      refine lv_icmp_ne (tgt := 42) hx hb d_X_times_37 (by decide) (fun c_4 => ?_) (fun c_4 => ?_)
      · skip
        refine lv_aload_n hx hb d_X_times_42 rfl (lv_at hl 1 rfl) ?_
        refine lv_aload_n hx hb d_X_times_43 rfl (lv_at hl 1 rfl) ?_
        refine va_get (D := (dC, dI)) (ci := 1) (v := .ref a1) (C := R_X) (T := F_X) (N := 7) hx hb hg in_X hown hK hP 0 rfl rfl 0 (by decide) (hg _ wg_46) (fun _ h9 => h9) rfl d_X_times_44 ?_
        refine lv_iload_n hx hb d_X_times_47 rfl (lv_at hl 2 rfl) ?_
        refine va_lald hx hb hK hP 1 0 rfl rfl (am_in c_1 hn) d_X_times_48 ?_
        refine lv_aload_n hx hb d_X_times_49 rfl (lv_at hl 1 rfl) ?_
        refine va_get (D := (dC, dI)) (ci := 1) (v := .ref a1) (C := R_X) (T := F_X) (N := 7) hx hb hg in_X hown hK hP 0 rfl rfl 0 (by decide) (hg _ wg_46) (fun _ h9 => h9) rfl d_X_times_50 ?_
        refine lv_iload_n hx hb d_X_times_53 rfl (lv_at hl 3 rfl) ?_
        refine va_lald hx hb hK hP 1 0 rfl rfl (am_in c_2 hn) d_X_times_54 ?_
        refine lv_lmul hx hb d_X_times_55 ?_
        refine lv_aload_n hx hb d_X_times_56 rfl (lv_at hl 1 rfl) ?_
        refine va_get (D := (dC, dI)) (ci := 1) (v := .ref a2) (C := R_X) (T := F_X) (N := 7) hx hb hg in_X hown hK hP 0 rfl rfl 1 (by decide) (hg _ wg_47) (fun _ h9 => h9) rfl d_X_times_57 ?_
        refine lv_iload_n hx hb d_X_times_60 rfl (lv_at hl 2 rfl) ?_
        refine va_lald hx hb hK hP 2 0 rfl rfl (am_in c_1 hn) d_X_times_61 ?_
        refine lv_aload_n hx hb d_X_times_62 rfl (lv_at hl 1 rfl) ?_
        refine va_get (D := (dC, dI)) (ci := 1) (v := .ref a2) (C := R_X) (T := F_X) (N := 7) hx hb hg in_X hown hK hP 0 rfl rfl 1 (by decide) (hg _ wg_47) (fun _ h9 => h9) rfl d_X_times_63 ?_
        refine lv_iload_n hx hb d_X_times_66 rfl (lv_at hl 3 rfl) ?_
        refine va_lald hx hb hK hP 2 0 rfl rfl (am_in c_2 hn) d_X_times_67 ?_
        refine lv_lmul hx hb d_X_times_68 ?_
        refine lv_iload_n hx hb d_X_times_69 rfl (lv_at hl 0 rfl) ?_
        have hPc := hP.sub (ws' := [(h, .inr (1, [.ref a1, .ref a2, .ref a3, .int n, .ref a4, .int k, .ref a5])), (a1, .inl (cJ, 500, .inr (.inl ab))), (a2, .inl (cJ, 500, .inr (.inl be))), (a3, .inl (cI, 500, .inl un))]) [0, 1, 2, 3] rfl
        have hDc := hD.sub (ws' := [(h, .inr (1, [.ref a1, .ref a2, .ref a3, .int n, .ref a4, .int k, .ref a5])), (a1, .inl (cJ, 500, .inr (.inl ab))), (a2, .inl (cJ, 500, .inr (.inl be))), (a3, .inl (cI, 500, .inl un))]) [0, 1, 2, 3] (by decide) rfl
        have hFc := va_free (wc := [(h, .inr (1, [.ref a1, .ref a2, .ref a3, .int n, .ref a4, .int k, .ref a5])), (a1, .inl (cJ, 500, .inr (.inl ab))), (a2, .inl (cJ, 500, .inr (.inl be))), (a3, .inl (cI, 500, .inl un))]) hD hS hA [0, 1, 2, 3] rfl
        refine va_calli (va_runV (As := [.long ((ab a.toNatClampNeg) * (ab b.toNatClampNeg)), .long ((be a.toNatClampNeg) * (be b.toNatClampNeg)), .int v_3]) (rest := []) ⟨hx, hb, hml, hown, hg⟩ (k_X_keep l dC dI cJ cI cT h a1 a2 a3 a4 a5 n k ab be un ((ab a.toNatClampNeg) * (ab b.toNatClampNeg)) ((be a.toNatClampNeg) * (be b.toNatClampNeg)) v_3 _ hn0) (q_V 3 hg wg_69 wg_67 wg_68 wg_1 wg_13 rfl rfl (by decide +kernel) ⟨Nat.le_of_ble_eq_true rfl, Nat.le_of_ble_eq_true rfl⟩) ⟨wx_blind, va_recv hK hPc (ci := 1) (q0 := 0) rfl rfl, wx_pre (as := .ref h :: [.long ((ab a.toNatClampNeg) * (ab b.toNatClampNeg)), .long ((be a.toNatClampNeg) * (be b.toNatClampNeg)), .int v_3]) hPc hK hDc⟩ rfl rfl hl.1 rfl (lv_room (Nat.le_of_ble_eq_true rfl)) d_X_times_70 ⟨Nat.le_of_ble_eq_true rfl, Nat.le_of_ble_eq_true rfl⟩) hS (fun q _ h => hFc q h) hFc (fun r_9 u t H1 locs ht hvm hw_10 hB hz1 hk1 hS => ?_)
        obtain ⟨ab_5, be_6, un_7, n_8⟩ := u
        obtain ⟨hP1, hK1, hD1⟩ := hB
        rw [ht] at hP1
        obtain ⟨hP, hD⟩ := va_join (wr := []) (w1 := [(h, .inr (1, [.ref a1, .ref a2, .ref a3, .int n_8, .ref a4, .int k, .ref a5])), (a1, .inl (cJ, 500, .inr (.inl ab_5))), (a2, .inl (cJ, 500, .inr (.inl be_6))), (a3, .inl (cI, 500, .inl un_7))]) hP hD [0, 1, 2, 3] [] rfl rfl (by decide) (by decide) hk1 hFc hP1 hD1
        generalize H1 = H at hP hS ⊢
        have hP : va_P (dC, dI) classes [(h, .inr (1, [.ref a1, .ref a2, .ref a3, .int n_8, .ref a4, .int k, .ref a5])), (a1, .inl (cJ, 500, .inr (.inl ab_5))), (a2, .inl (cJ, 500, .inr (.inl be_6))), (a3, .inl (cI, 500, .inl un_7))] H := hP
        have hD : va_D A [(h, .inr (1, [.ref a1, .ref a2, .ref a3, .int n_8, .ref a4, .int k, .ref a5])), (a1, .inl (cJ, 500, .inr (.inl ab_5))), (a2, .inl (cJ, 500, .inr (.inl be_6))), (a3, .inl (cI, 500, .inl un_7))] := hD
        subst ev_3
        have hP9 := hP.sub (ws' := [(h, .inr (1, [.ref a1, .ref a2, .ref a3, .int n_8, .ref a4, .int k, .ref a5])), (a1, .inl (cJ, 500, .inr (.inl ab_5))), (a2, .inl (cJ, 500, .inr (.inl be_6))), (a3, .inl (cI, 500, .inl un_7))]) [0, 1, 2, 3] rfl
        have hD9 := hD.sub (ws' := [(h, .inr (1, [.ref a1, .ref a2, .ref a3, .int n_8, .ref a4, .int k, .ref a5])), (a1, .inl (cJ, 500, .inr (.inl ab_5))), (a2, .inl (cJ, 500, .inr (.inl be_6))), (a3, .inl (cI, 500, .inl un_7))]) [0, 1, 2, 3] (by decide) rfl
        have hz : (r_9, (ab_5, be_6, un_7, n_8)) = f_X_times ab be un n a b := by unfold f_X_times; rw [if_neg c_1, if_neg c_2, if_neg c_4]; exact hw_10
        exact W.iret (v := r_9) hx hb hr (fun t ht hW => ⟨⟨r_9, (ab_5, be_6, un_7, n_8), rfl, hz, wb_of ht hW hP9 hK hD9⟩, hS.F ht⟩) hS.2.2 d_X_times_73
      · skip
        refine lv_iconst (v := (-1)) hx hb d_X_times_40 (by decide) ?_
        subst ev_3
        have hP9 := hP.sub (ws' := [(h, .inr (1, [.ref a1, .ref a2, .ref a3, .int n, .ref a4, .int k, .ref a5])), (a1, .inl (cJ, 500, .inr (.inl ab))), (a2, .inl (cJ, 500, .inr (.inl be))), (a3, .inl (cI, 500, .inl un))]) [0, 1, 2, 3] rfl
        have hD9 := hD.sub (ws' := [(h, .inr (1, [.ref a1, .ref a2, .ref a3, .int n, .ref a4, .int k, .ref a5])), (a1, .inl (cJ, 500, .inr (.inl ab))), (a2, .inl (cJ, 500, .inr (.inl be))), (a3, .inl (cI, 500, .inl un))]) [0, 1, 2, 3] (by decide) rfl
        have hz : ((-1), (ab, be, un, n)) = f_X_times ab be un n a b := by unfold f_X_times; rw [if_neg c_1, if_neg c_2, if_pos c_4]
        exact W.iret (v := (-1)) hx hb hr (fun t ht hW => ⟨⟨(-1), (ab, be, un, n), rfl, hz, wb_of ht hW hP9 hK hD9⟩, hS.F ht⟩) hS.2.2 d_X_times_41
    · skip
      refine lv_bipush (v := (-3)) hx hb d_X_times_16 (by decide) ?_
      have hP9 := hP.sub (ws' := [(h, .inr (1, [.ref a1, .ref a2, .ref a3, .int n, .ref a4, .int k, .ref a5])), (a1, .inl (cJ, 500, .inr (.inl ab))), (a2, .inl (cJ, 500, .inr (.inl be))), (a3, .inl (cI, 500, .inl un))]) [0, 1, 2, 3] rfl
      have hD9 := hD.sub (ws' := [(h, .inr (1, [.ref a1, .ref a2, .ref a3, .int n, .ref a4, .int k, .ref a5])), (a1, .inl (cJ, 500, .inr (.inl ab))), (a2, .inl (cJ, 500, .inr (.inl be))), (a3, .inl (cI, 500, .inl un))]) [0, 1, 2, 3] (by decide) rfl
      have hz : ((-3), (ab, be, un, n)) = f_X_times ab be un n a b := by unfold f_X_times; rw [if_neg c_1, if_pos c_2]
      exact W.iret (v := (-3)) hx hb hr (fun t ht hW => ⟨⟨(-3), (ab, be, un, n), rfl, hz, wb_of ht hW hP9 hK hD9⟩, hS.F ht⟩) hS.2.2 d_X_times_18
def f_X_round (ab be : Nat → Int64) (un : Nat → Int32) (n : Int32) (a : Int32) (ru : Int32) (q : Int64) : Int32 × (Nat → Int64) × (Nat → Int64) × (Nat → Int32) × Int32 := if (f_X_isAmount a n) = 0 then ((-3), (ab, be, un, n)) else if ru < 0 then ((-1), (ab, be, un, n)) else if 6 < ru then ((-1), (ab, be, un, n)) else if q < 1 then ((-1), (ab, be, un, n)) else if q ≤ 1000000000 then if (f_X_goesUp ru (f_X_quotientDown ((ab a.toNatClampNeg) * q) (be a.toNatClampNeg)) (f_X_restOf ((ab a.toNatClampNeg) * q) (be a.toNatClampNeg)) (be a.toNatClampNeg)) = 0 then (f_X_keep ab be un n (f_X_quotientDown ((ab a.toNatClampNeg) * q) (be a.toNatClampNeg)) q (un a.toNatClampNeg)) else (f_X_keep ab be un n ((f_X_quotientDown ((ab a.toNatClampNeg) * q) (be a.toNatClampNeg)) + 1) q (un a.toNatClampNeg)) else ((-1), (ab, be, un, n))
set_option maxHeartbeats 4000000 in
set_option maxRecDepth 100000 in
theorem k_X_round (l : Launch) (dC : Nat → ClassId) (dI : Nat → Nat → Nat) (cJ cI cT : ClassId) (h a1 a2 a3 a4 a5 : Nat) (n k : Int32) (ab be : Nat → Int64) (un : Nat → Int32) (a : Int32) (ru : Int32) (q : Int64) (sz : Nat) (hn0 : 0 ≤ n.toInt) (hn : n.toInt ≤ (500 : Nat)) : Met l y_X_round w_X_round ({ frames := 3, cells := 0, slots := 0, locals := 84 }) (va_Pc [.ref h, .int a, .int ru, .long q] (wx dC dI cJ cI cT sz [(h, .inr (1, [.ref a1, .ref a2, .ref a3, .int n, .ref a4, .int k, .ref a5])), (a1, .inl (cJ, 500, .inr (.inl ab))), (a2, .inl (cJ, 500, .inr (.inl be))), (a3, .inl (cI, 500, .inl un))])) (va_Qi (fun (r9 : Int32) (u9 : (Nat → Int64) × (Nat → Int64) × (Nat → Int32) × Int32) => (r9, u9) = f_X_round ab be un n a ru q) (fun u => wb dC dI cJ cI cT (va_A [(h, .inr (1, [.ref a1, .ref a2, .ref a3, .int n, .ref a4, .int k, .ref a5])), (a1, .inl (cJ, 500, .inr (.inl ab))), (a2, .inl (cJ, 500, .inr (.inl be))), (a3, .inl (cI, 500, .inl un))] sz) [(h, .inr (1, [.ref a1, .ref a2, .ref a3, .int u.2.2.2, .ref a4, .int k, .ref a5])), (a1, .inl (cJ, 500, .inr (.inl u.1))), (a2, .inl (cJ, 500, .inr (.inl u.2.1))), (a3, .inl (cI, 500, .inl u.2.2.1))]) (va_A [(h, .inr (1, [.ref a1, .ref a2, .ref a3, .int n, .ref a4, .int k, .ref a5])), (a1, .inl (cJ, 500, .inr (.inl ab))), (a2, .inl (cJ, 500, .inr (.inl be))), (a3, .inl (cI, 500, .inl un))] sz)) 0 0 (va_A [(h, .inr (1, [.ref a1, .ref a2, .ref a3, .int n, .ref a4, .int k, .ref a5])), (a1, .inl (cJ, 500, .inr (.inl ab))), (a2, .inl (cJ, 500, .inr (.inl be))), (a3, .inl (cI, 500, .inl un))] sz) := by
  refine Met.ofW (cc := c_X_round) (maxL := 13) (ret := (Option.some Jvm.ClassFile.FieldType.int)) (by decide) rfl ?_
  intro p e s m args below meth c s₁ B hml hv
  obtain ⟨rfl, hsz, hP, hK, hD0⟩ := hv
  have hx := B.exec
  have hb := B.bytes
  have hr := B.returns
  have hts := atoms_spec (ws := w_X_round) B.pre
  have hg : ∀ w ∈ WG, w.before _ s = true := fun w h => hts w (List.mem_cons_of_mem _ h)
  have hown : s.vm.findClass R_X = some m.cls := findClass_of_methodNamed B.named
  have hlocks := B.notSynchronized
  have hl := lv_entry ([.ref h, .int a, .int ru, .long q]) (n := 13) (Nat.le_of_ble_eq_true rfl)
  rw [lg_entry_eq]
  generalize (lg_sl ([.ref h, .int a, .int ru, .long q]) ++ List.replicate (13 - (lg_sl ([.ref h, .int a, .int ru, .long q])).length) Slot.unset).toArray = ls at hl ⊢
  have hl : lv_has ls 13 [(0, .ref h), (1, .int a), (2, .int ru), (3, .long q)] := hl
  subst hsz
  have hD := hD0.self (sz := s.heap.size)
  generalize hAe : va_A [(h, .inr (1, [.ref a1, .ref a2, .ref a3, .int n, .ref a4, .int k, .ref a5])), (a1, .inl (cJ, 500, .inr (.inl ab))), (a2, .inl (cJ, 500, .inr (.inl be))), (a3, .inl (cI, 500, .inl un))] s.heap.size = A at hD ⊢
  have hA : ∀ q : Nat, s.heap.size ≤ q → A q := fun q h => by rw [← hAe]; exact Or.inr h
  have hS : va_S A s.heap s.heap [] := va_S.rf
  have hP : va_P (dC, dI) classes [(h, .inr (1, [.ref a1, .ref a2, .ref a3, .int n, .ref a4, .int k, .ref a5])), (a1, .inl (cJ, 500, .inr (.inl ab))), (a2, .inl (cJ, 500, .inr (.inl be))), (a3, .inl (cI, 500, .inl un))] s.heap := hP
  have hD : va_D A [(h, .inr (1, [.ref a1, .ref a2, .ref a3, .int n, .ref a4, .int k, .ref a5])), (a1, .inl (cJ, 500, .inr (.inl ab))), (a2, .inl (cJ, 500, .inr (.inl be))), (a3, .inl (cI, 500, .inl un))] := hD
  skip
  refine lv_aload_n hx hb d_X_round_0 rfl (lv_at hl 0 rfl) ?_
  refine lv_iload_n hx hb d_X_round_1 rfl (lv_at hl 1 rfl) ?_
  have hPc := hP.sub (ws' := [(h, .inr (1, [.ref a1, .ref a2, .ref a3, .int n, .ref a4, .int k, .ref a5]))]) [0] rfl
  refine W.callV (W.runV (As := [.int a]) (rest := []) ⟨hx, hb, hml, hown, hg⟩ (k_X_isAmount l dC dI cJ cI cT h a1 a2 a3 a4 a5 n k a) (q_V 1 hg wg_66 wg_64 wg_65 wg_0 wg_13 rfl rfl (by decide +kernel) ⟨Nat.le_of_ble_eq_true rfl, Nat.le_of_ble_eq_true rfl⟩) ⟨wd_blind, va_recv hK hPc (ci := 1) (q0 := 0) rfl rfl, wd_pre (as := .ref h :: [.int a]) hPc hK⟩ rfl rfl hl.1 rfl (lv_room (Nat.le_of_ble_eq_true rfl)) d_X_round_2 ⟨Nat.le_of_ble_eq_true rfl, Nat.le_of_ble_eq_true rfl⟩) ?_
  refine W.eq (g2 := F0 m 5 ls (.int (f_X_isAmount a n) :: [])) rfl ?_
  refine lv_if_ne (tgt := 11) hx hb d_X_round_5 (by decide) (fun c_1 => ?_) (fun c_1 => ?_)
  · skip
    refine lv_iload_n hx hb d_X_round_11 rfl (lv_at hl 2 rfl) ?_
    refine lv_if_lt (tgt := 35) hx hb d_X_round_12 (by decide) (fun c_2 => ?_) (fun c_2 => ?_)
    · skip
      refine lv_iconst (v := (-1)) hx hb d_X_round_35 (by decide) ?_
      have hP9 := hP.sub (ws' := [(h, .inr (1, [.ref a1, .ref a2, .ref a3, .int n, .ref a4, .int k, .ref a5])), (a1, .inl (cJ, 500, .inr (.inl ab))), (a2, .inl (cJ, 500, .inr (.inl be))), (a3, .inl (cI, 500, .inl un))]) [0, 1, 2, 3] rfl
      have hD9 := hD.sub (ws' := [(h, .inr (1, [.ref a1, .ref a2, .ref a3, .int n, .ref a4, .int k, .ref a5])), (a1, .inl (cJ, 500, .inr (.inl ab))), (a2, .inl (cJ, 500, .inr (.inl be))), (a3, .inl (cI, 500, .inl un))]) [0, 1, 2, 3] (by decide) rfl
      have hz : ((-1), (ab, be, un, n)) = f_X_round ab be un n a ru q := by unfold f_X_round; rw [if_neg c_1, if_pos c_2]
      exact W.iret (v := (-1)) hx hb hr (fun t ht hW => ⟨⟨(-1), (ab, be, un, n), rfl, hz, wb_of ht hW hP9 hK hD9⟩, hS.F ht⟩) hS.2.2 d_X_round_36
    · skip
      refine lv_iload_n hx hb d_X_round_15 rfl (lv_at hl 2 rfl) ?_
      refine lv_bipush (v := 6) hx hb d_X_round_16 (by decide) ?_
      refine lv_icmp_gt (tgt := 35) hx hb d_X_round_18 (by decide) (fun c_3 => ?_) (fun c_3 => ?_)
      · skip
        refine lv_iconst (v := (-1)) hx hb d_X_round_35 (by decide) ?_
        have hP9 := hP.sub (ws' := [(h, .inr (1, [.ref a1, .ref a2, .ref a3, .int n, .ref a4, .int k, .ref a5])), (a1, .inl (cJ, 500, .inr (.inl ab))), (a2, .inl (cJ, 500, .inr (.inl be))), (a3, .inl (cI, 500, .inl un))]) [0, 1, 2, 3] rfl
        have hD9 := hD.sub (ws' := [(h, .inr (1, [.ref a1, .ref a2, .ref a3, .int n, .ref a4, .int k, .ref a5])), (a1, .inl (cJ, 500, .inr (.inl ab))), (a2, .inl (cJ, 500, .inr (.inl be))), (a3, .inl (cI, 500, .inl un))]) [0, 1, 2, 3] (by decide) rfl
        have hz : ((-1), (ab, be, un, n)) = f_X_round ab be un n a ru q := by unfold f_X_round; rw [if_neg c_1, if_neg c_2, if_pos c_3]
        exact W.iret (v := (-1)) hx hb hr (fun t ht hW => ⟨⟨(-1), (ab, be, un, n), rfl, hz, wb_of ht hW hP9 hK hD9⟩, hS.F ht⟩) hS.2.2 d_X_round_36
      · skip
        refine lv_lload_n hx hb d_X_round_21 rfl (lv_at hl 3 rfl) ?_
        refine lv_lconst (v := 1) hx hb d_X_round_22 (by decide) ?_
        refine W.lcmp hx hb d_X_round_23 ?_
        refine lv_if_lt (tgt := 35) hx hb d_X_round_24 (by decide) (fun c_4 => ?_) (fun c_4 => ?_)
        · skip
          rw [lg_cmp_lt] at c_4
          refine lv_iconst (v := (-1)) hx hb d_X_round_35 (by decide) ?_
          have hP9 := hP.sub (ws' := [(h, .inr (1, [.ref a1, .ref a2, .ref a3, .int n, .ref a4, .int k, .ref a5])), (a1, .inl (cJ, 500, .inr (.inl ab))), (a2, .inl (cJ, 500, .inr (.inl be))), (a3, .inl (cI, 500, .inl un))]) [0, 1, 2, 3] rfl
          have hD9 := hD.sub (ws' := [(h, .inr (1, [.ref a1, .ref a2, .ref a3, .int n, .ref a4, .int k, .ref a5])), (a1, .inl (cJ, 500, .inr (.inl ab))), (a2, .inl (cJ, 500, .inr (.inl be))), (a3, .inl (cI, 500, .inl un))]) [0, 1, 2, 3] (by decide) rfl
          have hz : ((-1), (ab, be, un, n)) = f_X_round ab be un n a ru q := by unfold f_X_round; rw [if_neg c_1, if_neg c_2, if_neg c_3, if_pos c_4]
          exact W.iret (v := (-1)) hx hb hr (fun t ht hW => ⟨⟨(-1), (ab, be, un, n), rfl, hz, wb_of ht hW hP9 hK hD9⟩, hS.F ht⟩) hS.2.2 d_X_round_36
        · skip
          rw [lg_cmp_lt] at c_4
          refine lv_lload_n hx hb d_X_round_27 rfl (lv_at hl 3 rfl) ?_
          refine lv_ldc2 (v := 1000000000) hx hb hown (hg _ wg_92) d_X_round_28 ?_
          refine W.lcmp hx hb d_X_round_31 ?_
          refine lv_if_le (tgt := 37) hx hb d_X_round_32 (by decide) (fun c_5 => ?_) (fun c_5 => ?_)
          · skip
            rw [lg_cmp_le] at c_5
            refine lv_aload_n hx hb d_X_round_37 rfl (lv_at hl 0 rfl) ?_
            refine va_get (D := (dC, dI)) (ci := 1) (v := .ref a1) (C := R_X) (T := F_X) (N := 7) hx hb hg in_X hown hK hP 0 rfl rfl 0 (by decide) (hg _ wg_46) (fun _ h9 => h9) rfl d_X_round_38 ?_
            refine lv_iload_n hx hb d_X_round_41 rfl (lv_at hl 1 rfl) ?_
            refine va_lald hx hb hK hP 1 0 rfl rfl (am_in c_1 hn) d_X_round_42 ?_
            refine lv_lload_n hx hb d_X_round_43 rfl (lv_at hl 3 rfl) ?_
            refine lv_lmul hx hb d_X_round_44 ?_
            refine lv_topl (fun v_6 ev_6 => ?_)
            refine lv_lstore (lv' := [(5, .long v_6), (0, .ref h), (1, .int a), (2, .int ru), (3, .long q)]) hx hb d_X_round_45 hl (by decide) rfl (fun ls hl => ?_)
            refine lv_lload hx hb d_X_round_47 (lv_at hl 0 rfl) ?_
            refine lv_aload_n hx hb d_X_round_49 rfl (lv_at hl 1 rfl) ?_
            refine va_get (D := (dC, dI)) (ci := 1) (v := .ref a2) (C := R_X) (T := F_X) (N := 7) hx hb hg in_X hown hK hP 0 rfl rfl 1 (by decide) (hg _ wg_47) (fun _ h9 => h9) rfl d_X_round_50 ?_
            refine lv_iload_n hx hb d_X_round_53 rfl (lv_at hl 2 rfl) ?_
            refine va_lald hx hb hK hP 2 0 rfl rfl (am_in c_1 hn) d_X_round_54 ?_
            refine W.callV (W.runS (As := [.long v_6, .long (be a.toNatClampNeg)]) (rest := []) ⟨hx, hb, hml, hown, hg⟩ (k_X_quotientDown l v_6 (be a.toNatClampNeg)) (q_S 2 hg wg_95 wg_93 wg_94 wg_13 rfl rfl (by decide +kernel) ⟨Nat.le_of_ble_eq_true rfl, Nat.le_of_ble_eq_true rfl⟩) ⟨nw_blind, fun _ _ _ => ⟨rfl, trivial⟩⟩ rfl rfl hl.1 rfl (lv_room (Nat.le_of_ble_eq_true rfl)) d_X_round_55 ⟨Nat.le_of_ble_eq_true rfl, Nat.le_of_ble_eq_true rfl⟩) ?_
            refine W.eq (g2 := F0 m 58 ls (.long (f_X_quotientDown v_6 (be a.toNatClampNeg)) :: [])) rfl ?_
            refine lv_topl (fun v_7 ev_7 => ?_)
            refine lv_lstore (lv' := [(7, .long v_7), (5, .long v_6), (0, .ref h), (1, .int a), (2, .int ru), (3, .long q)]) hx hb d_X_round_58 hl (by decide) rfl (fun ls hl => ?_)
            refine lv_lload hx hb d_X_round_60 (lv_at hl 1 rfl) ?_
            refine lv_aload_n hx hb d_X_round_62 rfl (lv_at hl 2 rfl) ?_
            refine va_get (D := (dC, dI)) (ci := 1) (v := .ref a2) (C := R_X) (T := F_X) (N := 7) hx hb hg in_X hown hK hP 0 rfl rfl 1 (by decide) (hg _ wg_47) (fun _ h9 => h9) rfl d_X_round_63 ?_
            refine lv_iload_n hx hb d_X_round_66 rfl (lv_at hl 3 rfl) ?_
            refine va_lald hx hb hK hP 2 0 rfl rfl (am_in c_1 hn) d_X_round_67 ?_
            refine W.callV (W.runS (As := [.long v_6, .long (be a.toNatClampNeg)]) (rest := []) ⟨hx, hb, hml, hown, hg⟩ (k_X_restOf l v_6 (be a.toNatClampNeg)) (q_S 2 hg wg_101 wg_99 wg_100 wg_13 rfl rfl (by decide +kernel) ⟨Nat.le_of_ble_eq_true rfl, Nat.le_of_ble_eq_true rfl⟩) ⟨nw_blind, fun _ _ _ => ⟨rfl, trivial⟩⟩ rfl rfl hl.1 rfl (lv_room (Nat.le_of_ble_eq_true rfl)) d_X_round_68 ⟨Nat.le_of_ble_eq_true rfl, Nat.le_of_ble_eq_true rfl⟩) ?_
            refine W.eq (g2 := F0 m 71 ls (.long (f_X_restOf v_6 (be a.toNatClampNeg)) :: [])) rfl ?_
            refine lv_topl (fun v_8 ev_8 => ?_)
            refine lv_lstore (lv' := [(9, .long v_8), (7, .long v_7), (5, .long v_6), (0, .ref h), (1, .int a), (2, .int ru), (3, .long q)]) hx hb d_X_round_71 hl (by decide) rfl (fun ls hl => ?_)
            refine lv_iload_n hx hb d_X_round_73 rfl (lv_at hl 5 rfl) ?_
            refine lv_lload hx hb d_X_round_74 (lv_at hl 1 rfl) ?_
            refine lv_lload hx hb d_X_round_76 (lv_at hl 0 rfl) ?_
            refine lv_aload_n hx hb d_X_round_78 rfl (lv_at hl 3 rfl) ?_
            refine va_get (D := (dC, dI)) (ci := 1) (v := .ref a2) (C := R_X) (T := F_X) (N := 7) hx hb hg in_X hown hK hP 0 rfl rfl 1 (by decide) (hg _ wg_47) (fun _ h9 => h9) rfl d_X_round_79 ?_
            refine lv_iload_n hx hb d_X_round_82 rfl (lv_at hl 4 rfl) ?_
            refine va_lald hx hb hK hP 2 0 rfl rfl (am_in c_1 hn) d_X_round_83 ?_
            refine W.callV (W.runS (As := [.int ru, .long v_7, .long v_8, .long (be a.toNatClampNeg)]) (rest := []) ⟨hx, hb, hml, hown, hg⟩ (k_X_goesUp l ru v_7 v_8 (be a.toNatClampNeg)) (q_S 4 hg wg_107 wg_105 wg_106 wg_13 rfl rfl (by decide +kernel) ⟨Nat.le_of_ble_eq_true rfl, Nat.le_of_ble_eq_true rfl⟩) ⟨nw_blind, fun _ _ _ => ⟨rfl, trivial⟩⟩ rfl rfl hl.1 rfl (lv_room (Nat.le_of_ble_eq_true rfl)) d_X_round_84 ⟨Nat.le_of_ble_eq_true rfl, Nat.le_of_ble_eq_true rfl⟩) ?_
            refine W.eq (g2 := F0 m 87 ls (.int (f_X_goesUp ru v_7 v_8 (be a.toNatClampNeg)) :: [])) rfl ?_
            refine lv_if_eq (tgt := 97) hx hb d_X_round_87 (by decide) (fun c_9 => ?_) (fun c_9 => ?_)
            · skip
              refine lv_lload hx hb d_X_round_97 (lv_at hl 1 rfl) ?_
              refine lv_lstore (lv' := [(11, .long v_7), (9, .long v_8), (7, .long v_7), (5, .long v_6), (0, .ref h), (1, .int a), (2, .int ru), (3, .long q)]) hx hb d_X_round_99 hl (by decide) rfl (fun ls hl => ?_)
              refine lv_aload_n hx hb d_X_round_101 rfl (lv_at hl 4 rfl) ?_
              refine lv_lload hx hb d_X_round_102 (lv_at hl 0 rfl) ?_
              refine lv_lload_n hx hb d_X_round_104 rfl (lv_at hl 7 rfl) ?_
              refine lv_aload_n hx hb d_X_round_105 rfl (lv_at hl 4 rfl) ?_
              refine va_get (D := (dC, dI)) (ci := 1) (v := .ref a3) (C := R_X) (T := F_X) (N := 7) hx hb hg in_X hown hK hP 0 rfl rfl 2 (by decide) (hg _ wg_48) (fun _ h9 => h9) rfl d_X_round_106 ?_
              refine lv_iload_n hx hb d_X_round_109 rfl (lv_at hl 5 rfl) ?_
              refine va_iald hx hb hK hP 3 1 rfl rfl (am_in c_1 hn) d_X_round_110 ?_
              have hPc := hP.sub (ws' := [(h, .inr (1, [.ref a1, .ref a2, .ref a3, .int n, .ref a4, .int k, .ref a5])), (a1, .inl (cJ, 500, .inr (.inl ab))), (a2, .inl (cJ, 500, .inr (.inl be))), (a3, .inl (cI, 500, .inl un))]) [0, 1, 2, 3] rfl
              have hDc := hD.sub (ws' := [(h, .inr (1, [.ref a1, .ref a2, .ref a3, .int n, .ref a4, .int k, .ref a5])), (a1, .inl (cJ, 500, .inr (.inl ab))), (a2, .inl (cJ, 500, .inr (.inl be))), (a3, .inl (cI, 500, .inl un))]) [0, 1, 2, 3] (by decide) rfl
              have hFc := va_free (wc := [(h, .inr (1, [.ref a1, .ref a2, .ref a3, .int n, .ref a4, .int k, .ref a5])), (a1, .inl (cJ, 500, .inr (.inl ab))), (a2, .inl (cJ, 500, .inr (.inl be))), (a3, .inl (cI, 500, .inl un))]) hD hS hA [0, 1, 2, 3] rfl
              refine va_calli (va_runV (As := [.long v_7, .long q, .int (un a.toNatClampNeg)]) (rest := []) ⟨hx, hb, hml, hown, hg⟩ (k_X_keep l dC dI cJ cI cT h a1 a2 a3 a4 a5 n k ab be un v_7 q (un a.toNatClampNeg) _ hn0) (q_V 3 hg wg_69 wg_67 wg_68 wg_1 wg_13 rfl rfl (by decide +kernel) ⟨Nat.le_of_ble_eq_true rfl, Nat.le_of_ble_eq_true rfl⟩) ⟨wx_blind, va_recv hK hPc (ci := 1) (q0 := 0) rfl rfl, wx_pre (as := .ref h :: [.long v_7, .long q, .int (un a.toNatClampNeg)]) hPc hK hDc⟩ rfl rfl hl.1 rfl (lv_room (Nat.le_of_ble_eq_true rfl)) d_X_round_111 ⟨Nat.le_of_ble_eq_true rfl, Nat.le_of_ble_eq_true rfl⟩) hS (fun q _ h => hFc q h) hFc (fun r_14 u t H1 locs ht hvm hw_15 hB hz1 hk1 hS => ?_)
              obtain ⟨ab_10, be_11, un_12, n_13⟩ := u
              obtain ⟨hP1, hK1, hD1⟩ := hB
              rw [ht] at hP1
              obtain ⟨hP, hD⟩ := va_join (wr := []) (w1 := [(h, .inr (1, [.ref a1, .ref a2, .ref a3, .int n_13, .ref a4, .int k, .ref a5])), (a1, .inl (cJ, 500, .inr (.inl ab_10))), (a2, .inl (cJ, 500, .inr (.inl be_11))), (a3, .inl (cI, 500, .inl un_12))]) hP hD [0, 1, 2, 3] [] rfl rfl (by decide) (by decide) hk1 hFc hP1 hD1
              generalize H1 = H at hP hS ⊢
              have hP : va_P (dC, dI) classes [(h, .inr (1, [.ref a1, .ref a2, .ref a3, .int n_13, .ref a4, .int k, .ref a5])), (a1, .inl (cJ, 500, .inr (.inl ab_10))), (a2, .inl (cJ, 500, .inr (.inl be_11))), (a3, .inl (cI, 500, .inl un_12))] H := hP
              have hD : va_D A [(h, .inr (1, [.ref a1, .ref a2, .ref a3, .int n_13, .ref a4, .int k, .ref a5])), (a1, .inl (cJ, 500, .inr (.inl ab_10))), (a2, .inl (cJ, 500, .inr (.inl be_11))), (a3, .inl (cI, 500, .inl un_12))] := hD
              subst ev_8
              subst ev_7
              subst ev_6
              have hP9 := hP.sub (ws' := [(h, .inr (1, [.ref a1, .ref a2, .ref a3, .int n_13, .ref a4, .int k, .ref a5])), (a1, .inl (cJ, 500, .inr (.inl ab_10))), (a2, .inl (cJ, 500, .inr (.inl be_11))), (a3, .inl (cI, 500, .inl un_12))]) [0, 1, 2, 3] rfl
              have hD9 := hD.sub (ws' := [(h, .inr (1, [.ref a1, .ref a2, .ref a3, .int n_13, .ref a4, .int k, .ref a5])), (a1, .inl (cJ, 500, .inr (.inl ab_10))), (a2, .inl (cJ, 500, .inr (.inl be_11))), (a3, .inl (cI, 500, .inl un_12))]) [0, 1, 2, 3] (by decide) rfl
              have hz : (r_14, (ab_10, be_11, un_12, n_13)) = f_X_round ab be un n a ru q := by unfold f_X_round; rw [if_neg c_1, if_neg c_2, if_neg c_3, if_neg c_4, if_pos c_5, if_pos c_9]; exact hw_15
              exact W.iret (v := r_14) hx hb hr (fun t ht hW => ⟨⟨r_14, (ab_10, be_11, un_12, n_13), rfl, hz, wb_of ht hW hP9 hK hD9⟩, hS.F ht⟩) hS.2.2 d_X_round_114
            · skip
              refine lv_lload hx hb d_X_round_90 (lv_at hl 1 rfl) ?_
              refine lv_lconst (v := 1) hx hb d_X_round_92 (by decide) ?_
              refine lv_ladd hx hb d_X_round_93 ?_
              refine lv_goto (tgt := 99) hx hb d_X_round_94 (by decide) ?_
              refine lv_topl (fun v_16 ev_16 => ?_)
              refine lv_lstore (lv' := [(11, .long v_16), (9, .long v_8), (7, .long v_7), (5, .long v_6), (0, .ref h), (1, .int a), (2, .int ru), (3, .long q)]) hx hb d_X_round_99 hl (by decide) rfl (fun ls hl => ?_)
              refine lv_aload_n hx hb d_X_round_101 rfl (lv_at hl 4 rfl) ?_
              refine lv_lload hx hb d_X_round_102 (lv_at hl 0 rfl) ?_
              refine lv_lload_n hx hb d_X_round_104 rfl (lv_at hl 7 rfl) ?_
              refine lv_aload_n hx hb d_X_round_105 rfl (lv_at hl 4 rfl) ?_
              refine va_get (D := (dC, dI)) (ci := 1) (v := .ref a3) (C := R_X) (T := F_X) (N := 7) hx hb hg in_X hown hK hP 0 rfl rfl 2 (by decide) (hg _ wg_48) (fun _ h9 => h9) rfl d_X_round_106 ?_
              refine lv_iload_n hx hb d_X_round_109 rfl (lv_at hl 5 rfl) ?_
              refine va_iald hx hb hK hP 3 1 rfl rfl (am_in c_1 hn) d_X_round_110 ?_
              have hPc := hP.sub (ws' := [(h, .inr (1, [.ref a1, .ref a2, .ref a3, .int n, .ref a4, .int k, .ref a5])), (a1, .inl (cJ, 500, .inr (.inl ab))), (a2, .inl (cJ, 500, .inr (.inl be))), (a3, .inl (cI, 500, .inl un))]) [0, 1, 2, 3] rfl
              have hDc := hD.sub (ws' := [(h, .inr (1, [.ref a1, .ref a2, .ref a3, .int n, .ref a4, .int k, .ref a5])), (a1, .inl (cJ, 500, .inr (.inl ab))), (a2, .inl (cJ, 500, .inr (.inl be))), (a3, .inl (cI, 500, .inl un))]) [0, 1, 2, 3] (by decide) rfl
              have hFc := va_free (wc := [(h, .inr (1, [.ref a1, .ref a2, .ref a3, .int n, .ref a4, .int k, .ref a5])), (a1, .inl (cJ, 500, .inr (.inl ab))), (a2, .inl (cJ, 500, .inr (.inl be))), (a3, .inl (cI, 500, .inl un))]) hD hS hA [0, 1, 2, 3] rfl
              refine va_calli (va_runV (As := [.long v_16, .long q, .int (un a.toNatClampNeg)]) (rest := []) ⟨hx, hb, hml, hown, hg⟩ (k_X_keep l dC dI cJ cI cT h a1 a2 a3 a4 a5 n k ab be un v_16 q (un a.toNatClampNeg) _ hn0) (q_V 3 hg wg_69 wg_67 wg_68 wg_1 wg_13 rfl rfl (by decide +kernel) ⟨Nat.le_of_ble_eq_true rfl, Nat.le_of_ble_eq_true rfl⟩) ⟨wx_blind, va_recv hK hPc (ci := 1) (q0 := 0) rfl rfl, wx_pre (as := .ref h :: [.long v_16, .long q, .int (un a.toNatClampNeg)]) hPc hK hDc⟩ rfl rfl hl.1 rfl (lv_room (Nat.le_of_ble_eq_true rfl)) d_X_round_111 ⟨Nat.le_of_ble_eq_true rfl, Nat.le_of_ble_eq_true rfl⟩) hS (fun q _ h => hFc q h) hFc (fun r_21 u t H1 locs ht hvm hw_22 hB hz1 hk1 hS => ?_)
              obtain ⟨ab_17, be_18, un_19, n_20⟩ := u
              obtain ⟨hP1, hK1, hD1⟩ := hB
              rw [ht] at hP1
              obtain ⟨hP, hD⟩ := va_join (wr := []) (w1 := [(h, .inr (1, [.ref a1, .ref a2, .ref a3, .int n_20, .ref a4, .int k, .ref a5])), (a1, .inl (cJ, 500, .inr (.inl ab_17))), (a2, .inl (cJ, 500, .inr (.inl be_18))), (a3, .inl (cI, 500, .inl un_19))]) hP hD [0, 1, 2, 3] [] rfl rfl (by decide) (by decide) hk1 hFc hP1 hD1
              generalize H1 = H at hP hS ⊢
              have hP : va_P (dC, dI) classes [(h, .inr (1, [.ref a1, .ref a2, .ref a3, .int n_20, .ref a4, .int k, .ref a5])), (a1, .inl (cJ, 500, .inr (.inl ab_17))), (a2, .inl (cJ, 500, .inr (.inl be_18))), (a3, .inl (cI, 500, .inl un_19))] H := hP
              have hD : va_D A [(h, .inr (1, [.ref a1, .ref a2, .ref a3, .int n_20, .ref a4, .int k, .ref a5])), (a1, .inl (cJ, 500, .inr (.inl ab_17))), (a2, .inl (cJ, 500, .inr (.inl be_18))), (a3, .inl (cI, 500, .inl un_19))] := hD
              subst ev_16
              subst ev_8
              subst ev_7
              subst ev_6
              have hP9 := hP.sub (ws' := [(h, .inr (1, [.ref a1, .ref a2, .ref a3, .int n_20, .ref a4, .int k, .ref a5])), (a1, .inl (cJ, 500, .inr (.inl ab_17))), (a2, .inl (cJ, 500, .inr (.inl be_18))), (a3, .inl (cI, 500, .inl un_19))]) [0, 1, 2, 3] rfl
              have hD9 := hD.sub (ws' := [(h, .inr (1, [.ref a1, .ref a2, .ref a3, .int n_20, .ref a4, .int k, .ref a5])), (a1, .inl (cJ, 500, .inr (.inl ab_17))), (a2, .inl (cJ, 500, .inr (.inl be_18))), (a3, .inl (cI, 500, .inl un_19))]) [0, 1, 2, 3] (by decide) rfl
              have hz : (r_21, (ab_17, be_18, un_19, n_20)) = f_X_round ab be un n a ru q := by unfold f_X_round; rw [if_neg c_1, if_neg c_2, if_neg c_3, if_neg c_4, if_pos c_5, if_neg c_9]; exact hw_22
              exact W.iret (v := r_21) hx hb hr (fun t ht hW => ⟨⟨r_21, (ab_17, be_18, un_19, n_20), rfl, hz, wb_of ht hW hP9 hK hD9⟩, hS.F ht⟩) hS.2.2 d_X_round_114
          · skip
            rw [lg_cmp_le] at c_5
            refine lv_iconst (v := (-1)) hx hb d_X_round_35 (by decide) ?_
            have hP9 := hP.sub (ws' := [(h, .inr (1, [.ref a1, .ref a2, .ref a3, .int n, .ref a4, .int k, .ref a5])), (a1, .inl (cJ, 500, .inr (.inl ab))), (a2, .inl (cJ, 500, .inr (.inl be))), (a3, .inl (cI, 500, .inl un))]) [0, 1, 2, 3] rfl
            have hD9 := hD.sub (ws' := [(h, .inr (1, [.ref a1, .ref a2, .ref a3, .int n, .ref a4, .int k, .ref a5])), (a1, .inl (cJ, 500, .inr (.inl ab))), (a2, .inl (cJ, 500, .inr (.inl be))), (a3, .inl (cI, 500, .inl un))]) [0, 1, 2, 3] (by decide) rfl
            have hz : ((-1), (ab, be, un, n)) = f_X_round ab be un n a ru q := by unfold f_X_round; rw [if_neg c_1, if_neg c_2, if_neg c_3, if_neg c_4, if_neg c_5]
            exact W.iret (v := (-1)) hx hb hr (fun t ht hW => ⟨⟨(-1), (ab, be, un, n), rfl, hz, wb_of ht hW hP9 hK hD9⟩, hS.F ht⟩) hS.2.2 d_X_round_36
  · skip
    refine lv_bipush (v := (-3)) hx hb d_X_round_8 (by decide) ?_
    have hP9 := hP.sub (ws' := [(h, .inr (1, [.ref a1, .ref a2, .ref a3, .int n, .ref a4, .int k, .ref a5])), (a1, .inl (cJ, 500, .inr (.inl ab))), (a2, .inl (cJ, 500, .inr (.inl be))), (a3, .inl (cI, 500, .inl un))]) [0, 1, 2, 3] rfl
    have hD9 := hD.sub (ws' := [(h, .inr (1, [.ref a1, .ref a2, .ref a3, .int n, .ref a4, .int k, .ref a5])), (a1, .inl (cJ, 500, .inr (.inl ab))), (a2, .inl (cJ, 500, .inr (.inl be))), (a3, .inl (cI, 500, .inl un))]) [0, 1, 2, 3] (by decide) rfl
    have hz : ((-3), (ab, be, un, n)) = f_X_round ab be un n a ru q := by unfold f_X_round; rw [if_pos c_1]
    exact W.iret (v := (-3)) hx hb hr (fun t ht hW => ⟨⟨(-3), (ab, be, un, n), rfl, hz, wb_of ht hW hP9 hK hD9⟩, hS.F ht⟩) hS.2.2 d_X_round_10
end
section
def f_X_order (ab be : Nat → Int64) (un : Nat → Int32) (n a b : Int32) : Int32 := if (f_X_isAmount a n) = 0 then (-3) else if (f_X_isAmount b n) = 0 then (-3) else if (un a.toNatClampNeg) = (un b.toNatClampNeg) then if ((ab b.toNatClampNeg) * (be a.toNatClampNeg)) ≤ ((ab a.toNatClampNeg) * (be b.toNatClampNeg)) then if ((ab a.toNatClampNeg) * (be b.toNatClampNeg)) ≤ ((ab b.toNatClampNeg) * (be a.toNatClampNeg)) then 0 else 1 else (-1) else 2
set_option maxHeartbeats 4000000 in
set_option maxRecDepth 100000 in
theorem k_X_order (l : Launch) (dC : Nat → ClassId) (dI : Nat → Nat → Nat) (cJ cI cT : ClassId) (h a1 a2 a3 a4 a5 : Nat) (n k : Int32) (ab be : Nat → Int64) (un : Nat → Int32) (a b : Int32) (hn : n.toInt ≤ (500 : Nat)) : Met l y_X_order w_X_order ({ frames := 1, cells := 0, slots := 0, locals := 21 }) (va_Pc [.ref h, .int a, .int b] (wd dC dI cJ cI cT [(h, .inr (1, [.ref a1, .ref a2, .ref a3, .int n, .ref a4, .int k, .ref a5])), (a1, .inl (cJ, 500, .inr (.inl ab))), (a2, .inl (cJ, 500, .inr (.inl be))), (a3, .inl (cI, 500, .inl un))])) (k2_QcV (.int (f_X_order ab be un n a b))) 0 0 (fun _ => False) := by
  refine Met.ofW (cc := c_X_order) (maxL := 7) (ret := (Option.some Jvm.ClassFile.FieldType.int)) (by decide) rfl ?_
  intro p e s m args below meth c s₁ B hml hv
  obtain ⟨rfl, hP, hK⟩ := hv
  have hx := B.exec
  have hb := B.bytes
  have hr := B.returns
  have hts := atoms_spec (ws := w_X_order) B.pre
  have hg : ∀ w ∈ WG, w.before _ s = true := fun w h => hts w (List.mem_cons_of_mem _ h)
  have hown : s.vm.findClass R_X = some m.cls := findClass_of_methodNamed B.named
  have hlocks := B.notSynchronized
  have hl := lv_entry ([.ref h, .int a, .int b]) (n := 7) (Nat.le_of_ble_eq_true rfl)
  rw [lg_entry_eq]
  generalize (lg_sl ([.ref h, .int a, .int b]) ++ List.replicate (7 - (lg_sl ([.ref h, .int a, .int b])).length) Slot.unset).toArray = ls at hl ⊢
  have hl : lv_has ls 7 [(0, .ref h), (1, .int a), (2, .int b)] := hl
  have hP : va_P (dC, dI) classes [(h, .inr (1, [.ref a1, .ref a2, .ref a3, .int n, .ref a4, .int k, .ref a5])), (a1, .inl (cJ, 500, .inr (.inl ab))), (a2, .inl (cJ, 500, .inr (.inl be))), (a3, .inl (cI, 500, .inl un))] s.heap := hP
  refine lv_aload_n hx hb d_X_order_0 rfl (lv_at hl 0 rfl) ?_
  refine lv_iload_n hx hb d_X_order_1 rfl (lv_at hl 1 rfl) ?_
  have hPc := hP.sub (ws' := [(h, .inr (1, [.ref a1, .ref a2, .ref a3, .int n, .ref a4, .int k, .ref a5]))]) [0] rfl
  refine W.callV (W.runV (As := [.int a]) (rest := []) ⟨hx, hb, hml, hown, hg⟩ (k_X_isAmount l dC dI cJ cI cT h a1 a2 a3 a4 a5 n k a) (q_V 1 hg wg_66 wg_64 wg_65 wg_0 wg_13 rfl rfl (by decide +kernel) ⟨Nat.le_of_ble_eq_true rfl, Nat.le_of_ble_eq_true rfl⟩) ⟨wd_blind, va_recv hK hPc (ci := 1) (q0 := 0) rfl rfl, wd_pre (as := .ref h :: [.int a]) hPc hK⟩ rfl rfl hl.1 rfl (lv_room (Nat.le_of_ble_eq_true rfl)) d_X_order_2 ⟨Nat.le_of_ble_eq_true rfl, Nat.le_of_ble_eq_true rfl⟩) ?_
  refine W.eq (g2 := F0 m 5 ls (.int (f_X_isAmount a n) :: [])) rfl ?_
  refine lv_if_eq (tgt := 16) hx hb d_X_order_5 (by decide) (fun c_1 => ?_) (fun c_1 => ?_)
  · skip
    refine lv_bipush (v := (-3)) hx hb d_X_order_16 (by decide) ?_
    have hz : f_X_order ab be un n a b = (-3) := by unfold f_X_order; rw [if_pos c_1]
    exact W.iret hx hb hr (fun t ht _ => ⟨by rw [hz], ht⟩) (fun _ h => by cases h) d_X_order_18
  · skip
    refine lv_aload_n hx hb d_X_order_8 rfl (lv_at hl 0 rfl) ?_
    refine lv_iload_n hx hb d_X_order_9 rfl (lv_at hl 2 rfl) ?_
    have hPc := hP.sub (ws' := [(h, .inr (1, [.ref a1, .ref a2, .ref a3, .int n, .ref a4, .int k, .ref a5]))]) [0] rfl
    refine W.callV (W.runV (As := [.int b]) (rest := []) ⟨hx, hb, hml, hown, hg⟩ (k_X_isAmount l dC dI cJ cI cT h a1 a2 a3 a4 a5 n k b) (q_V 1 hg wg_66 wg_64 wg_65 wg_0 wg_13 rfl rfl (by decide +kernel) ⟨Nat.le_of_ble_eq_true rfl, Nat.le_of_ble_eq_true rfl⟩) ⟨wd_blind, va_recv hK hPc (ci := 1) (q0 := 0) rfl rfl, wd_pre (as := .ref h :: [.int b]) hPc hK⟩ rfl rfl hl.1 rfl (lv_room (Nat.le_of_ble_eq_true rfl)) d_X_order_10 ⟨Nat.le_of_ble_eq_true rfl, Nat.le_of_ble_eq_true rfl⟩) ?_
    refine W.eq (g2 := F0 m 13 ls (.int (f_X_isAmount b n) :: [])) rfl ?_
    refine lv_if_ne (tgt := 19) hx hb d_X_order_13 (by decide) (fun c_2 => ?_) (fun c_2 => ?_)
    · skip
      refine lv_aload_n hx hb d_X_order_19 rfl (lv_at hl 0 rfl) ?_
      refine va_get (D := (dC, dI)) (ci := 1) (v := .ref a3) (C := R_X) (T := F_X) (N := 7) hx hb hg in_X hown hK hP 0 rfl rfl 2 (by decide) (hg _ wg_48) (fun _ h9 => h9) rfl d_X_order_20 ?_
      refine lv_iload_n hx hb d_X_order_23 rfl (lv_at hl 1 rfl) ?_
      refine va_iald hx hb hK hP 3 1 rfl rfl (am_in c_1 hn) d_X_order_24 ?_
      refine lv_aload_n hx hb d_X_order_25 rfl (lv_at hl 0 rfl) ?_
      refine va_get (D := (dC, dI)) (ci := 1) (v := .ref a3) (C := R_X) (T := F_X) (N := 7) hx hb hg in_X hown hK hP 0 rfl rfl 2 (by decide) (hg _ wg_48) (fun _ h9 => h9) rfl d_X_order_26 ?_
      refine lv_iload_n hx hb d_X_order_29 rfl (lv_at hl 2 rfl) ?_
      refine va_iald hx hb hK hP 3 1 rfl rfl (am_in c_2 hn) d_X_order_30 ?_
      refine lv_icmp_eq (tgt := 36) hx hb d_X_order_31 (by decide) (fun c_3 => ?_) (fun c_3 => ?_)
      · skip
        refine lv_aload_n hx hb d_X_order_36 rfl (lv_at hl 0 rfl) ?_
        refine va_get (D := (dC, dI)) (ci := 1) (v := .ref a1) (C := R_X) (T := F_X) (N := 7) hx hb hg in_X hown hK hP 0 rfl rfl 0 (by decide) (hg _ wg_46) (fun _ h9 => h9) rfl d_X_order_37 ?_
        refine lv_iload_n hx hb d_X_order_40 rfl (lv_at hl 1 rfl) ?_
        refine va_lald hx hb hK hP 1 0 rfl rfl (am_in c_1 hn) d_X_order_41 ?_
        refine lv_aload_n hx hb d_X_order_42 rfl (lv_at hl 0 rfl) ?_
        refine va_get (D := (dC, dI)) (ci := 1) (v := .ref a2) (C := R_X) (T := F_X) (N := 7) hx hb hg in_X hown hK hP 0 rfl rfl 1 (by decide) (hg _ wg_47) (fun _ h9 => h9) rfl d_X_order_43 ?_
        refine lv_iload_n hx hb d_X_order_46 rfl (lv_at hl 2 rfl) ?_
        refine va_lald hx hb hK hP 2 0 rfl rfl (am_in c_2 hn) d_X_order_47 ?_
        refine lv_lmul hx hb d_X_order_48 ?_
        refine lv_topl (fun v_4 ev_4 => ?_)
        refine lv_lstore_n (lv' := [(3, .long v_4), (0, .ref h), (1, .int a), (2, .int b)]) hx hb d_X_order_49 rfl hl (by decide) rfl (fun ls hl => ?_)
        refine lv_aload_n hx hb d_X_order_50 rfl (lv_at hl 1 rfl) ?_
        refine va_get (D := (dC, dI)) (ci := 1) (v := .ref a1) (C := R_X) (T := F_X) (N := 7) hx hb hg in_X hown hK hP 0 rfl rfl 0 (by decide) (hg _ wg_46) (fun _ h9 => h9) rfl d_X_order_51 ?_
        refine lv_iload_n hx hb d_X_order_54 rfl (lv_at hl 3 rfl) ?_
        refine va_lald hx hb hK hP 1 0 rfl rfl (am_in c_2 hn) d_X_order_55 ?_
        refine lv_aload_n hx hb d_X_order_56 rfl (lv_at hl 1 rfl) ?_
        refine va_get (D := (dC, dI)) (ci := 1) (v := .ref a2) (C := R_X) (T := F_X) (N := 7) hx hb hg in_X hown hK hP 0 rfl rfl 1 (by decide) (hg _ wg_47) (fun _ h9 => h9) rfl d_X_order_57 ?_
        refine lv_iload_n hx hb d_X_order_60 rfl (lv_at hl 2 rfl) ?_
        refine va_lald hx hb hK hP 2 0 rfl rfl (am_in c_1 hn) d_X_order_61 ?_
        refine lv_lmul hx hb d_X_order_62 ?_
        refine lv_topl (fun v_5 ev_5 => ?_)
        refine lv_lstore (lv' := [(5, .long v_5), (3, .long v_4), (0, .ref h), (1, .int a), (2, .int b)]) hx hb d_X_order_63 hl (by decide) rfl (fun ls hl => ?_)
        refine lv_lload_n hx hb d_X_order_65 rfl (lv_at hl 1 rfl) ?_
        refine lv_lload hx hb d_X_order_66 (lv_at hl 0 rfl) ?_
        refine W.lcmp hx hb d_X_order_68 ?_
        refine lv_if_ge (tgt := 76) hx hb d_X_order_69 (by decide) (fun c_6 => ?_) (fun c_6 => ?_)
        · skip
          rw [lg_cmp_ge] at c_6
          refine lv_lload_n hx hb d_X_order_76 rfl (lv_at hl 1 rfl) ?_
          refine lv_lload hx hb d_X_order_77 (lv_at hl 0 rfl) ?_
          refine W.lcmp hx hb d_X_order_79 ?_
          refine lv_if_le (tgt := 87) hx hb d_X_order_80 (by decide) (fun c_7 => ?_) (fun c_7 => ?_)
          · skip
            rw [lg_cmp_le] at c_7
            refine lv_iconst (v := 0) hx hb d_X_order_87 (by decide) ?_
            subst ev_5
            subst ev_4
            have hz : f_X_order ab be un n a b = 0 := by unfold f_X_order; rw [if_neg c_1, if_neg c_2, if_pos c_3, if_pos c_6, if_pos c_7]
            exact W.iret hx hb hr (fun t ht _ => ⟨by rw [hz], ht⟩) (fun _ h => by cases h) d_X_order_88
          · skip
            rw [lg_cmp_le] at c_7
            refine lv_iconst (v := 1) hx hb d_X_order_83 (by decide) ?_
            refine lv_goto (tgt := 88) hx hb d_X_order_84 (by decide) ?_
            subst ev_5
            subst ev_4
            have hz : f_X_order ab be un n a b = 1 := by unfold f_X_order; rw [if_neg c_1, if_neg c_2, if_pos c_3, if_pos c_6, if_neg c_7]
            exact W.iret hx hb hr (fun t ht _ => ⟨by rw [hz], ht⟩) (fun _ h => by cases h) d_X_order_88
        · skip
          rw [lg_cmp_ge] at c_6
          refine lv_iconst (v := (-1)) hx hb d_X_order_72 (by decide) ?_
          refine lv_goto (tgt := 88) hx hb d_X_order_73 (by decide) ?_
          subst ev_5
          subst ev_4
          have hz : f_X_order ab be un n a b = (-1) := by unfold f_X_order; rw [if_neg c_1, if_neg c_2, if_pos c_3, if_neg c_6]
          exact W.iret hx hb hr (fun t ht _ => ⟨by rw [hz], ht⟩) (fun _ h => by cases h) d_X_order_88
      · skip
        refine lv_iconst (v := 2) hx hb d_X_order_34 (by decide) ?_
        have hz : f_X_order ab be un n a b = 2 := by unfold f_X_order; rw [if_neg c_1, if_neg c_2, if_neg c_3]
        exact W.iret hx hb hr (fun t ht _ => ⟨by rw [hz], ht⟩) (fun _ h => by cases h) d_X_order_35
    · skip
      refine lv_bipush (v := (-3)) hx hb d_X_order_16 (by decide) ?_
      have hz : f_X_order ab be un n a b = (-3) := by unfold f_X_order; rw [if_neg c_1, if_pos c_2]
      exact W.iret hx hb hr (fun t ht _ => ⟨by rw [hz], ht⟩) (fun _ h => by cases h) d_X_order_18
def f_X_weight (we : Nat → Int64) (k : Int32) (w : Int64) : Int32 × (Nat → Int64) × Int32 := if w < 0 then (0, (we, k)) else if 1000000 < w then (0, (we, k)) else if k < 16 then (1, (vp_updL we k.toNatClampNeg w, (k + 1))) else (0, (we, k))
set_option maxHeartbeats 4000000 in
set_option maxRecDepth 100000 in
theorem k_X_weight (l : Launch) (dC : Nat → ClassId) (dI : Nat → Nat → Nat) (cJ cI cT : ClassId) (h a1 a2 a3 a4 a5 : Nat) (n k : Int32) (we : Nat → Int64) (w : Int64) (sz : Nat) (hk0 : 0 ≤ k.toInt) : Met l y_X_weight w_X_weight ({ frames := 0, cells := 0, slots := 0, locals := 0 }) (va_Pc [.ref h, .long w] (wx dC dI cJ cI cT sz [(h, .inr (1, [.ref a1, .ref a2, .ref a3, .int n, .ref a4, .int k, .ref a5])), (a4, .inl (cJ, 16, .inr (.inl we)))])) (va_Qi (fun (r9 : Int32) (u9 : (Nat → Int64) × Int32) => (r9, u9) = f_X_weight we k w) (fun u => wb dC dI cJ cI cT (va_A [(h, .inr (1, [.ref a1, .ref a2, .ref a3, .int n, .ref a4, .int k, .ref a5])), (a4, .inl (cJ, 16, .inr (.inl we)))] sz) [(h, .inr (1, [.ref a1, .ref a2, .ref a3, .int n, .ref a4, .int u.2, .ref a5])), (a4, .inl (cJ, 16, .inr (.inl u.1)))]) (va_A [(h, .inr (1, [.ref a1, .ref a2, .ref a3, .int n, .ref a4, .int k, .ref a5])), (a4, .inl (cJ, 16, .inr (.inl we)))] sz)) 0 0 (va_A [(h, .inr (1, [.ref a1, .ref a2, .ref a3, .int n, .ref a4, .int k, .ref a5])), (a4, .inl (cJ, 16, .inr (.inl we)))] sz) := by
  refine Met.ofW (cc := c_X_weight) (maxL := 3) (ret := (Option.some Jvm.ClassFile.FieldType.boolean)) (by decide) rfl ?_
  intro p e s m args below meth c s₁ B hml hv
  obtain ⟨rfl, hsz, hP, hK, hD0⟩ := hv
  have hx := B.exec
  have hb := B.bytes
  have hr := B.returns
  have hts := atoms_spec (ws := w_X_weight) B.pre
  have hg : ∀ w ∈ WG, w.before _ s = true := fun w h => hts w (List.mem_cons_of_mem _ h)
  have hown : s.vm.findClass R_X = some m.cls := findClass_of_methodNamed B.named
  have hlocks := B.notSynchronized
  have hl := lv_entry ([.ref h, .long w]) (n := 3) (Nat.le_of_ble_eq_true rfl)
  rw [lg_entry_eq]
  generalize (lg_sl ([.ref h, .long w]) ++ List.replicate (3 - (lg_sl ([.ref h, .long w])).length) Slot.unset).toArray = ls at hl ⊢
  have hl : lv_has ls 3 [(0, .ref h), (1, .long w)] := hl
  subst hsz
  have hD := hD0.self (sz := s.heap.size)
  generalize hAe : va_A [(h, .inr (1, [.ref a1, .ref a2, .ref a3, .int n, .ref a4, .int k, .ref a5])), (a4, .inl (cJ, 16, .inr (.inl we)))] s.heap.size = A at hD ⊢
  have hA : ∀ q : Nat, s.heap.size ≤ q → A q := fun q h => by rw [← hAe]; exact Or.inr h
  have hS : va_S A s.heap s.heap [] := va_S.rf
  have hP : va_P (dC, dI) classes [(h, .inr (1, [.ref a1, .ref a2, .ref a3, .int n, .ref a4, .int k, .ref a5])), (a4, .inl (cJ, 16, .inr (.inl we)))] s.heap := hP
  have hD : va_D A [(h, .inr (1, [.ref a1, .ref a2, .ref a3, .int n, .ref a4, .int k, .ref a5])), (a4, .inl (cJ, 16, .inr (.inl we)))] := hD
  skip
  refine lv_lload_n hx hb d_X_weight_0 rfl (lv_at hl 1 rfl) ?_
  refine lv_lconst (v := 0) hx hb d_X_weight_1 (by decide) ?_
  refine W.lcmp hx hb d_X_weight_2 ?_
  refine lv_if_lt (tgt := 23) hx hb d_X_weight_3 (by decide) (fun c_1 => ?_) (fun c_1 => ?_)
  · skip
    rw [lg_cmp_lt] at c_1
    refine lv_iconst (v := 0) hx hb d_X_weight_23 (by decide) ?_
    have hP9 := hP.sub (ws' := [(h, .inr (1, [.ref a1, .ref a2, .ref a3, .int n, .ref a4, .int k, .ref a5])), (a4, .inl (cJ, 16, .inr (.inl we)))]) [0, 1] rfl
    have hD9 := hD.sub (ws' := [(h, .inr (1, [.ref a1, .ref a2, .ref a3, .int n, .ref a4, .int k, .ref a5])), (a4, .inl (cJ, 16, .inr (.inl we)))]) [0, 1] (by decide) rfl
    have hz : (0, (we, k)) = f_X_weight we k w := by unfold f_X_weight; rw [if_pos c_1]
    exact W.zret (v := 0) hx hb hr rfl (fun t ht hW => ⟨⟨0, (we, k), rfl, hz, wb_of ht hW hP9 hK hD9⟩, hS.F ht⟩) hS.2.2 d_X_weight_24
  · skip
    rw [lg_cmp_lt] at c_1
    refine lv_lload_n hx hb d_X_weight_6 rfl (lv_at hl 1 rfl) ?_
    refine lv_ldc2 (v := 1000000) hx hb hown (hg _ wg_146) d_X_weight_7 ?_
    refine W.lcmp hx hb d_X_weight_10 ?_
    refine lv_if_gt (tgt := 23) hx hb d_X_weight_11 (by decide) (fun c_2 => ?_) (fun c_2 => ?_)
    · skip
      rw [lg_cmp_gt] at c_2
      refine lv_iconst (v := 0) hx hb d_X_weight_23 (by decide) ?_
      have hP9 := hP.sub (ws' := [(h, .inr (1, [.ref a1, .ref a2, .ref a3, .int n, .ref a4, .int k, .ref a5])), (a4, .inl (cJ, 16, .inr (.inl we)))]) [0, 1] rfl
      have hD9 := hD.sub (ws' := [(h, .inr (1, [.ref a1, .ref a2, .ref a3, .int n, .ref a4, .int k, .ref a5])), (a4, .inl (cJ, 16, .inr (.inl we)))]) [0, 1] (by decide) rfl
      have hz : (0, (we, k)) = f_X_weight we k w := by unfold f_X_weight; rw [if_neg c_1, if_pos c_2]
      exact W.zret (v := 0) hx hb hr rfl (fun t ht hW => ⟨⟨0, (we, k), rfl, hz, wb_of ht hW hP9 hK hD9⟩, hS.F ht⟩) hS.2.2 d_X_weight_24
    · skip
      rw [lg_cmp_gt] at c_2
      refine lv_aload_n hx hb d_X_weight_14 rfl (lv_at hl 0 rfl) ?_
      refine va_get (D := (dC, dI)) (ci := 1) (v := .int k) (C := R_X) (T := F_X) (N := 7) hx hb hg in_X hown hK hP 0 rfl rfl 5 (by decide) (hg _ wg_51) (fun _ h9 => h9) rfl d_X_weight_15 ?_
      refine lv_bipush (v := 16) hx hb d_X_weight_18 (by decide) ?_
      refine lv_icmp_lt (tgt := 25) hx hb d_X_weight_20 (by decide) (fun c_3 => ?_) (fun c_3 => ?_)
      · skip
        refine lv_aload_n hx hb d_X_weight_25 rfl (lv_at hl 0 rfl) ?_
        refine va_get (D := (dC, dI)) (ci := 1) (v := .ref a4) (C := R_X) (T := F_X) (N := 7) hx hb hg in_X hown hK hP 0 rfl rfl 4 (by decide) (hg _ wg_50) (fun _ h9 => h9) rfl d_X_weight_26 ?_
        refine lv_aload_n hx hb d_X_weight_29 rfl (lv_at hl 0 rfl) ?_
        refine va_get (D := (dC, dI)) (ci := 1) (v := .int k) (C := R_X) (T := F_X) (N := 7) hx hb hg in_X hown hK hP 0 rfl rfl 5 (by decide) (hg _ wg_51) (fun _ h9 => h9) rfl d_X_weight_30 ?_
        refine lv_lload_n hx hb d_X_weight_33 rfl (lv_at hl 1 rfl) ?_
        refine va_last hx hb hK hP hD hS 1 0 rfl rfl (in_cnt hk0 c_3 (by decide)) d_X_weight_34 (fun H locs hP hD hS => ?_)
        have hP : va_P (dC, dI) classes [(h, .inr (1, [.ref a1, .ref a2, .ref a3, .int n, .ref a4, .int k, .ref a5])), (a4, .inl (cJ, 16, .inr (.inl (vp_updL we k.toNatClampNeg w))))] H := hP
        have hD : va_D A [(h, .inr (1, [.ref a1, .ref a2, .ref a3, .int n, .ref a4, .int k, .ref a5])), (a4, .inl (cJ, 16, .inr (.inl (vp_updL we k.toNatClampNeg w))))] := hD
        refine lv_aload_n hx hb d_X_weight_35 rfl (lv_at hl 0 rfl) ?_
        refine lv_dup hx hb d_X_weight_36 rfl ?_
        refine va_get (D := (dC, dI)) (ci := 1) (v := .int k) (C := R_X) (T := F_X) (N := 7) hx hb hg in_X hown hK hP 0 rfl rfl 5 (by decide) (hg _ wg_51) (fun _ h9 => h9) rfl d_X_weight_37 ?_
        refine lv_iconst (v := 1) hx hb d_X_weight_40 (by decide) ?_
        refine lv_iadd hx hb d_X_weight_41 ?_
        refine lv_topi (fun v_4 ev_4 => ?_)
        refine va_put (D := (dC, dI)) (ci := 1) (v := .int v_4) (ty := .int) (C := R_X) (T := F_X) (N := 7) hx hb hg in_X tt_X tt_X_ok nn_X hown hK hP hD hS 0 rfl rfl 5 (by decide) (hg _ wg_51) (fun _ h9 => h9) rfl (by decide +kernel) rfl rfl (Nat.le_of_ble_eq_true rfl) d_X_weight_42 (fun H locs hP hD hS => ?_)
        have hP : va_P (dC, dI) classes [(h, .inr (1, [.ref a1, .ref a2, .ref a3, .int n, .ref a4, .int v_4, .ref a5])), (a4, .inl (cJ, 16, .inr (.inl (vp_updL we k.toNatClampNeg w))))] H := hP
        have hD : va_D A [(h, .inr (1, [.ref a1, .ref a2, .ref a3, .int n, .ref a4, .int v_4, .ref a5])), (a4, .inl (cJ, 16, .inr (.inl (vp_updL we k.toNatClampNeg w))))] := hD
        refine lv_iconst (v := 1) hx hb d_X_weight_45 (by decide) ?_
        subst ev_4
        have hP9 := hP.sub (ws' := [(h, .inr (1, [.ref a1, .ref a2, .ref a3, .int n, .ref a4, .int (k + 1), .ref a5])), (a4, .inl (cJ, 16, .inr (.inl (vp_updL we k.toNatClampNeg w))))]) [0, 1] rfl
        have hD9 := hD.sub (ws' := [(h, .inr (1, [.ref a1, .ref a2, .ref a3, .int n, .ref a4, .int (k + 1), .ref a5])), (a4, .inl (cJ, 16, .inr (.inl (vp_updL we k.toNatClampNeg w))))]) [0, 1] (by decide) rfl
        have hz : (1, (vp_updL we k.toNatClampNeg w, (k + 1))) = f_X_weight we k w := by unfold f_X_weight; rw [if_neg c_1, if_neg c_2, if_pos c_3]
        exact W.zret (v := 1) hx hb hr rfl (fun t ht hW => ⟨⟨1, (vp_updL we k.toNatClampNeg w, (k + 1)), rfl, hz, wb_of ht hW hP9 hK hD9⟩, hS.F ht⟩) hS.2.2 d_X_weight_46
      · skip
        refine lv_iconst (v := 0) hx hb d_X_weight_23 (by decide) ?_
        have hP9 := hP.sub (ws' := [(h, .inr (1, [.ref a1, .ref a2, .ref a3, .int n, .ref a4, .int k, .ref a5])), (a4, .inl (cJ, 16, .inr (.inl we)))]) [0, 1] rfl
        have hD9 := hD.sub (ws' := [(h, .inr (1, [.ref a1, .ref a2, .ref a3, .int n, .ref a4, .int k, .ref a5])), (a4, .inl (cJ, 16, .inr (.inl we)))]) [0, 1] (by decide) rfl
        have hz : (0, (we, k)) = f_X_weight we k w := by unfold f_X_weight; rw [if_neg c_1, if_neg c_2, if_neg c_3]
        exact W.zret (v := 0) hx hb hr rfl (fun t ht hW => ⟨⟨0, (we, k), rfl, hz, wb_of ht hW hP9 hK hD9⟩, hS.F ht⟩) hS.2.2 d_X_weight_24
/-- the sum of n places from j on, behind x -/
def sum_L (f : Nat → Int64) : Nat → Nat → Int64 → Int64
  | 0, _, x => x
  | n + 1, j, x => sum_L f n (j + 1) (x + f j)
set_option maxHeartbeats 4000000 in
set_option maxRecDepth 100000 in
theorem lp_X_sumOfWeights {p : Program} {l : Launch} {e : Env} {R : Room} {s : State} {m : MethodId} {args : Array Value} {below : List Frame} {meth : Method} {c : Code} {H : Heap} {locs : List Loc} {cells slots : Nat} {Q : State → Prop} {dC : Nat → ClassId} {dI : Nat → Nat → Nat} {cJ cI cT : ClassId} {h a1 a2 a3 a4 a5 : Nat} {n k : Int32} {we : Nat → Int64} (hx : p.tables.exec = Jvm.exec) (hb : c.code = c_X_sumOfWeights) (hg : ∀ w ∈ WG, w.before args s = true) (hown : s.vm.findClass R_X = some m.cls) (hK : va_K (dC, dI) classes (TY cJ cI cT) s) : ∀ (q j : Nat) (x : Int64) (ls : Array Slot), va_P (dC, dI) classes [(h, .inr (1, [.ref a1, .ref a2, .ref a3, .int n, .ref a4, .int (nI (j + q)), .ref a5])), (a4, .inl (cJ, 16, .inr (.inl we)))] H → j + q ≤ 16 → lv_has ls 4 [(0, .ref h), (1, .long x), (3, .int (nI j))] → (∀ ls' : Array Slot, lv_has ls' 4 [(1, .long (sum_L we q j x))] → W p l e R s m args below meth c H locs cells slots Q (F0 m 27 ls' [])) → W p l e R s m args below meth c H locs cells slots Q (F0 m 4 ls []) := by
  intro q
  induction q with
  | zero =>
    intro j x ls hP hj hl kk
    refine lv_iload_n hx hb d_X_sumOfWeights_4 rfl (lv_at hl 2 rfl) ?_
    refine lv_aload_n hx hb d_X_sumOfWeights_5 rfl (lv_at hl 0 rfl) ?_
    refine va_get (D := (dC, dI)) (ci := 1) (v := .int (nI (j + 0))) (C := R_X) (T := F_X) (N := 7) hx hb hg in_X hown hK hP 0 rfl rfl 5 (by decide) (hg _ wg_51) (fun _ h9 => h9) rfl d_X_sumOfWeights_6 ?_
    refine lv_icmp_ge (tgt := 27) hx hb d_X_sumOfWeights_9 (by decide) (fun c_1 => ?_) (fun c_1 => ?_)
    · skip
      exact kk ls (lv_sub hl [1] rfl)
    · skip
      exact absurd (nI_le (Nat.le_refl j) (by omega)) c_1
  | succ q ih =>
    intro j x ls hP hj hl kk
    refine lv_iload_n hx hb d_X_sumOfWeights_4 rfl (lv_at hl 2 rfl) ?_
    refine lv_aload_n hx hb d_X_sumOfWeights_5 rfl (lv_at hl 0 rfl) ?_
    refine va_get (D := (dC, dI)) (ci := 1) (v := .int (nI (j + (q + 1)))) (C := R_X) (T := F_X) (N := 7) hx hb hg in_X hown hK hP 0 rfl rfl 5 (by decide) (hg _ wg_51) (fun _ h9 => h9) rfl d_X_sumOfWeights_6 ?_
    refine lv_icmp_ge (tgt := 27) hx hb d_X_sumOfWeights_9 (by decide) (fun c_1 => ?_) (fun c_1 => ?_)
    · skip
      exact absurd c_1 (nI_ge (by omega) (by omega))
    · skip
      refine lv_lload_n hx hb d_X_sumOfWeights_12 rfl (lv_at hl 1 rfl) ?_
      refine lv_aload_n hx hb d_X_sumOfWeights_13 rfl (lv_at hl 0 rfl) ?_
      refine va_get (D := (dC, dI)) (ci := 1) (v := .ref a4) (C := R_X) (T := F_X) (N := 7) hx hb hg in_X hown hK hP 0 rfl rfl 4 (by decide) (hg _ wg_50) (fun _ h9 => h9) rfl d_X_sumOfWeights_14 ?_
      refine lv_iload_n hx hb d_X_sumOfWeights_17 rfl (lv_at hl 2 rfl) ?_
      refine va_lald hx hb hK hP 1 0 rfl rfl (vp_in_nI (by omega) (by decide)) d_X_sumOfWeights_18 ?_
      refine lv_ladd hx hb d_X_sumOfWeights_19 ?_
      refine lv_topl (fun v_2 ev_2 => ?_)
      refine lv_lstore_n (lv' := [(1, .long v_2), (0, .ref h), (3, .int (nI j))]) hx hb d_X_sumOfWeights_20 rfl hl (by decide) rfl (fun ls hl => ?_)
      obtain ⟨v_3, ev_3⟩ : ∃ y : Int32, y = nI j + 1 := ⟨_, rfl⟩
      refine lv_iinc (v := v_3) (lv' := [(3, .int v_3), (1, .long v_2), (0, .ref h)]) hx hb d_X_sumOfWeights_21 hl (k := 2) rfl (by rw [ev_3]; rfl) (by decide) rfl (fun ls hl => ?_)
      refine lv_goto (tgt := 4) hx hb d_X_sumOfWeights_24 (by decide) ?_
      subst ev_3
      subst ev_2
      rw [nI_1] at hl
      rw [nI_clamp (show j < 2 ^ 31 by omega)] at hl
      have e1 : j + (q + 1) = (j + 1) + q := by omega
      rw [e1] at hP
      exact ih (j + 1) _ ls hP (by omega) (lv_sub hl [2, 1, 0] rfl) kk
def f_X_sumOfWeights (we : Nat → Int64) (k : Int32) : Int64 := sum_L we k.toNatClampNeg 0 0
set_option maxHeartbeats 4000000 in
set_option maxRecDepth 100000 in
theorem k_X_sumOfWeights (l : Launch) (dC : Nat → ClassId) (dI : Nat → Nat → Nat) (cJ cI cT : ClassId) (h a1 a2 a3 a4 a5 : Nat) (n k : Int32) (we : Nat → Int64) (hk0 : 0 ≤ k.toInt) (hk : k.toInt ≤ (16 : Nat)) : Met l y_X_sumOfWeights w_X_sumOfWeights ({ frames := 0, cells := 0, slots := 0, locals := 0 }) (va_Pc [.ref h] (wd dC dI cJ cI cT [(h, .inr (1, [.ref a1, .ref a2, .ref a3, .int n, .ref a4, .int k, .ref a5])), (a4, .inl (cJ, 16, .inr (.inl we)))])) (k2_QcV (.long (f_X_sumOfWeights we k))) 0 0 (fun _ => False) := by
  refine Met.ofW (cc := c_X_sumOfWeights) (maxL := 4) (ret := (Option.some Jvm.ClassFile.FieldType.long)) (by decide) rfl ?_
  intro p e s m args below meth c s₁ B hml hv
  obtain ⟨rfl, hP, hK⟩ := hv
  have hx := B.exec
  have hb := B.bytes
  have hr := B.returns
  have hts := atoms_spec (ws := w_X_sumOfWeights) B.pre
  have hg : ∀ w ∈ WG, w.before _ s = true := fun w h => hts w (List.mem_cons_of_mem _ h)
  have hown : s.vm.findClass R_X = some m.cls := findClass_of_methodNamed B.named
  have hlocks := B.notSynchronized
  have hl := lv_entry ([.ref h]) (n := 4) (Nat.le_of_ble_eq_true rfl)
  rw [lg_entry_eq]
  generalize (lg_sl ([.ref h]) ++ List.replicate (4 - (lg_sl ([.ref h])).length) Slot.unset).toArray = ls at hl ⊢
  have hl : lv_has ls 4 [(0, .ref h)] := hl
  have hP : va_P (dC, dI) classes [(h, .inr (1, [.ref a1, .ref a2, .ref a3, .int n, .ref a4, .int k, .ref a5])), (a4, .inl (cJ, 16, .inr (.inl we)))] s.heap := hP
  refine lv_lconst (v := 0) hx hb d_X_sumOfWeights_0 (by decide) ?_
  refine lv_lstore_n (lv' := [(1, .long 0), (0, .ref h)]) hx hb d_X_sumOfWeights_1 rfl hl (by decide) rfl (fun ls hl => ?_)
  refine lv_iconst (v := 0) hx hb d_X_sumOfWeights_2 (by decide) ?_
  refine lv_istore_n (lv' := [(3, .int 0), (1, .long 0), (0, .ref h)]) hx hb d_X_sumOfWeights_3 rfl hl (by decide) rfl (fun ls hl => ?_)
  obtain ⟨q, hq9, eq9⟩ := nI_of (x := k) (fun hh => by rw [Int32.lt_iff_toInt_lt] at hh; have e0 : (0 : Int32).toInt = 0 := rfl; omega)
  have eq2 : k.toNatClampNeg = q := by rw [eq9]; exact nI_clamp hq9
  have eq3 : k.toInt = q := by rw [eq9]; exact nI_toInt hq9
  have eq4 : k = nI (0 + q) := by rw [Nat.zero_add]; exact eq9
  refine lp_X_sumOfWeights (k := k) (we := we) hx hb hg hown hK q 0 _ ls (by rw [← eq4]; exact hP) (by omega) (lv_sub hl [2, 1, 0] rfl) (fun ls hl => ?_)
  rw [← eq2] at hl
  refine lv_lload_n hx hb d_X_sumOfWeights_27 rfl (lv_at hl 0 rfl) ?_
  have hz : f_X_sumOfWeights we k = sum_L we k.toNatClampNeg 0 0 := by unfold f_X_sumOfWeights; rfl
  exact W.lret hx hb hr (fun t ht _ => ⟨by rw [hz], ht⟩) (fun _ h => by cases h) d_X_sumOfWeights_28
end
section
/-- one more comes before, or not -/
def th_s (rest o y : Int64) (kx i : Int32) : Int64 := if rest < o then y + 1 else if o = rest then if kx ≤ i then y else y + 1 else y
/-- the sum of the rests, and how many come before -/
def th_L (we : Nat → Int64) (t all rest : Int64) (kx : Int32) : Nat → Nat → Int64 → Int64 → Int64 × Int64
  | 0, _, x, y => (x, y)
  | n + 1, j, x, y => th_L we t all rest kx n (j + 1) (x + f_X_restOf (t * we j) all) (th_s rest (f_X_restOf (t * we j) all) y kx (nI j))
set_option maxHeartbeats 4000000 in
set_option maxRecDepth 100000 in
theorem lp_X_thousandthsOf {p : Program} {l : Launch} {e : Env} {R : Room} {s : State} {m : MethodId} {args : Array Value} {below : List Frame} {meth : Method} {c : Code} {H : Heap} {locs : List Loc} {cells slots : Nat} {Q : State → Prop} {dC : Nat → ClassId} {dI : Nat → Nat → Nat} {cJ cI cT : ClassId} {h a1 a2 a3 a4 a5 : Nat} {n k : Int32} {we : Nat → Int64} {kx : Int32} {t all rest gr : Int64} (hx : p.tables.exec = Jvm.exec) (hb : c.code = c_X_thousandthsOf) (hg : ∀ w ∈ WG, w.before args s = true) (hown : s.vm.findClass R_X = some m.cls) (hml : c.maxLocals = 18) (hR : 1 + 1 ≤ R.frames ∧ 8 + (4 + 11) + 25 ≤ R.locals) (hc : cells ≤ R.cells) (hs : slots ≤ R.slots) (hK : va_K (dC, dI) classes (TY cJ cI cT) s) : ∀ (q j : Nat) (x y : Int64) (ls : Array Slot), va_P (dC, dI) classes [(h, .inr (1, [.ref a1, .ref a2, .ref a3, .int n, .ref a4, .int (nI (j + q)), .ref a5])), (a4, .inl (cJ, 16, .inr (.inl we)))] H → j + q ≤ 16 → lv_has ls 18 [(0, .ref h), (1, .int kx), (2, .long t), (4, .long all), (6, .long gr), (8, .long rest), (10, .long x), (12, .long y), (14, .int (nI j))] → (∀ ls' : Array Slot, lv_has ls' 18 [(4, .long all), (6, .long gr), (10, .long (th_L we t all rest kx q j x y).1), (12, .long (th_L we t all rest kx q j x y).2)] → W p l e R s m args below meth c H locs cells slots Q (F0 m 94 ls' [])) → W p l e R s m args below meth c H locs cells slots Q (F0 m 28 ls []) := by
  intro q
  induction q with
  | zero =>
    intro j x y ls hP hj hl kk
    refine lv_iload hx hb d_X_thousandthsOf_28 (lv_at hl 8 rfl) ?_
    refine lv_aload_n hx hb d_X_thousandthsOf_30 rfl (lv_at hl 0 rfl) ?_
    refine va_get (D := (dC, dI)) (ci := 1) (v := .int (nI (j + 0))) (C := R_X) (T := F_X) (N := 7) hx hb hg in_X hown hK hP 0 rfl rfl 5 (by decide) (hg _ wg_51) (fun _ h9 => h9) rfl d_X_thousandthsOf_31 ?_
    refine lv_icmp_ge (tgt := 94) hx hb d_X_thousandthsOf_34 (by decide) (fun c_1 => ?_) (fun c_1 => ?_)
    · skip
      exact kk ls (lv_sub hl [3, 4, 6, 7] rfl)
    · skip
      exact absurd (nI_le (Nat.le_refl j) (by omega)) c_1
  | succ q ih =>
    intro j x y ls hP hj hl kk
    refine lv_iload hx hb d_X_thousandthsOf_28 (lv_at hl 8 rfl) ?_
    refine lv_aload_n hx hb d_X_thousandthsOf_30 rfl (lv_at hl 0 rfl) ?_
    refine va_get (D := (dC, dI)) (ci := 1) (v := .int (nI (j + (q + 1)))) (C := R_X) (T := F_X) (N := 7) hx hb hg in_X hown hK hP 0 rfl rfl 5 (by decide) (hg _ wg_51) (fun _ h9 => h9) rfl d_X_thousandthsOf_31 ?_
    refine lv_icmp_ge (tgt := 94) hx hb d_X_thousandthsOf_34 (by decide) (fun c_1 => ?_) (fun c_1 => ?_)
    · skip
      exact absurd c_1 (nI_ge (by omega) (by omega))
    · skip
      refine lv_lload_n hx hb d_X_thousandthsOf_37 rfl (lv_at hl 2 rfl) ?_
      refine lv_aload_n hx hb d_X_thousandthsOf_38 rfl (lv_at hl 0 rfl) ?_
      refine va_get (D := (dC, dI)) (ci := 1) (v := .ref a4) (C := R_X) (T := F_X) (N := 7) hx hb hg in_X hown hK hP 0 rfl rfl 4 (by decide) (hg _ wg_50) (fun _ h9 => h9) rfl d_X_thousandthsOf_39 ?_
      refine lv_iload hx hb d_X_thousandthsOf_42 (lv_at hl 8 rfl) ?_
      refine va_lald hx hb hK hP 1 0 rfl rfl (vp_in_nI (by omega) (by decide)) d_X_thousandthsOf_44 ?_
      refine lv_lmul hx hb d_X_thousandthsOf_45 ?_
      refine lv_lload hx hb d_X_thousandthsOf_46 (lv_at hl 3 rfl) ?_
      refine W.callV (W.runS (As := [.long (t * (we (nI j).toNatClampNeg)), .long all]) (rest := []) ⟨hx, hb, hml, hown, hg⟩ (k_X_restOf l (t * (we (nI j).toNatClampNeg)) all) (q_S 2 hg wg_101 wg_99 wg_100 wg_13 rfl rfl (by decide +kernel) hR) ⟨nw_blind, fun _ _ _ => ⟨rfl, trivial⟩⟩ rfl rfl hl.1 rfl (lv_room (Nat.le_of_ble_eq_true rfl)) d_X_thousandthsOf_48 ⟨hc, hs⟩) ?_
      refine W.eq (g2 := F0 m 51 ls (.long (f_X_restOf (t * (we (nI j).toNatClampNeg)) all) :: [])) rfl ?_
      refine lv_topl (fun v_2 ev_2 => ?_)
      refine lv_lstore (lv' := [(15, .long v_2), (0, .ref h), (1, .int kx), (2, .long t), (4, .long all), (6, .long gr), (8, .long rest), (10, .long x), (12, .long y), (14, .int (nI j))]) hx hb d_X_thousandthsOf_51 hl (by decide) rfl (fun ls hl => ?_)
      refine lv_lload hx hb d_X_thousandthsOf_53 (lv_at hl 7 rfl) ?_
      refine lv_lload hx hb d_X_thousandthsOf_55 (lv_at hl 0 rfl) ?_
      refine lv_ladd hx hb d_X_thousandthsOf_57 ?_
      refine lv_topl (fun v_3 ev_3 => ?_)
      refine lv_lstore (lv' := [(10, .long v_3), (15, .long v_2), (0, .ref h), (1, .int kx), (2, .long t), (4, .long all), (6, .long gr), (8, .long rest), (12, .long y), (14, .int (nI j))]) hx hb d_X_thousandthsOf_58 hl (by decide) rfl (fun ls hl => ?_)
      refine lv_lload hx hb d_X_thousandthsOf_60 (lv_at hl 1 rfl) ?_
      refine lv_lload hx hb d_X_thousandthsOf_62 (lv_at hl 7 rfl) ?_
      refine W.lcmp hx hb d_X_thousandthsOf_64 ?_
      refine lv_if_gt (tgt := 82) hx hb d_X_thousandthsOf_65 (by decide) (fun c_4 => ?_) (fun c_4 => ?_)
      · skip
        rw [lg_cmp_gt] at c_4
        refine lv_lload hx hb d_X_thousandthsOf_82 (lv_at hl 8 rfl) ?_
        refine lv_lconst (v := 1) hx hb d_X_thousandthsOf_84 (by decide) ?_
        refine lv_ladd hx hb d_X_thousandthsOf_85 ?_
        refine lv_topl (fun v_5 ev_5 => ?_)
        refine lv_lstore (lv' := [(12, .long v_5), (10, .long v_3), (15, .long v_2), (0, .ref h), (1, .int kx), (2, .long t), (4, .long all), (6, .long gr), (8, .long rest), (14, .int (nI j))]) hx hb d_X_thousandthsOf_86 hl (by decide) rfl (fun ls hl => ?_)
        obtain ⟨v_6, ev_6⟩ : ∃ y : Int32, y = nI j + 1 := ⟨_, rfl⟩
        refine lv_iinc (v := v_6) (lv' := [(14, .int v_6), (12, .long v_5), (10, .long v_3), (15, .long v_2), (0, .ref h), (1, .int kx), (2, .long t), (4, .long all), (6, .long gr), (8, .long rest)]) hx hb d_X_thousandthsOf_88 hl (k := 9) rfl (by rw [ev_6]; rfl) (by decide) rfl (fun ls hl => ?_)
        refine lv_goto (tgt := 28) hx hb d_X_thousandthsOf_91 (by decide) ?_
        subst ev_6
        subst ev_5
        subst ev_3
        subst ev_2
        rw [nI_1] at hl
        have e2 : (nI j).toNatClampNeg = j := nI_clamp (by omega)
        try rw [e2] at c_4
        rw [e2] at hl
        have e1 : j + (q + 1) = (j + 1) + q := by omega
        rw [e1] at hP
        have ez : th_s rest (f_X_restOf (t * we j) all) y kx (nI j) = (y + 1) := by unfold th_s; rw [if_pos c_4]
        rw [show th_L we t all rest kx (q + 1) j x y = th_L we t all rest kx q (j + 1) (x + f_X_restOf (t * we j) all) ((y + 1)) from congrArg (th_L we t all rest kx q (j + 1) (x + f_X_restOf (t * we j) all)) ez] at kk
        exact ih (j + 1) _ _ ls hP (by omega) (lv_sub hl [4, 5, 6, 7, 8, 9, 2, 1, 0] rfl) kk
      · skip
        rw [lg_cmp_gt] at c_4
        refine lv_lload hx hb d_X_thousandthsOf_68 (lv_at hl 1 rfl) ?_
        refine lv_lload hx hb d_X_thousandthsOf_70 (lv_at hl 7 rfl) ?_
        refine W.lcmp hx hb d_X_thousandthsOf_72 ?_
        refine lv_if_ne (tgt := 88) hx hb d_X_thousandthsOf_73 (by decide) (fun c_7 => ?_) (fun c_7 => ?_)
        · skip
          rw [lg_cmp_eq] at c_7
          obtain ⟨v_8, ev_8⟩ : ∃ y : Int32, y = nI j + 1 := ⟨_, rfl⟩
          refine lv_iinc (v := v_8) (lv' := [(14, .int v_8), (10, .long v_3), (15, .long v_2), (0, .ref h), (1, .int kx), (2, .long t), (4, .long all), (6, .long gr), (8, .long rest), (12, .long y)]) hx hb d_X_thousandthsOf_88 hl (k := 9) rfl (by rw [ev_8]; rfl) (by decide) rfl (fun ls hl => ?_)
          refine lv_goto (tgt := 28) hx hb d_X_thousandthsOf_91 (by decide) ?_
          subst ev_8
          subst ev_3
          subst ev_2
          rw [nI_1] at hl
          have e2 : (nI j).toNatClampNeg = j := nI_clamp (by omega)
          try rw [e2] at c_4
          try rw [e2] at c_7
          rw [e2] at hl
          have e1 : j + (q + 1) = (j + 1) + q := by omega
          rw [e1] at hP
          have ez : th_s rest (f_X_restOf (t * we j) all) y kx (nI j) = y := by unfold th_s; rw [if_neg c_4, if_neg c_7]
          rw [show th_L we t all rest kx (q + 1) j x y = th_L we t all rest kx q (j + 1) (x + f_X_restOf (t * we j) all) (y) from congrArg (th_L we t all rest kx q (j + 1) (x + f_X_restOf (t * we j) all)) ez] at kk
          exact ih (j + 1) _ _ ls hP (by omega) (lv_sub hl [3, 4, 5, 6, 7, 8, 1, 9, 0] rfl) kk
        · skip
          rw [lg_cmp_eq] at c_7
          refine lv_iload hx hb d_X_thousandthsOf_76 (lv_at hl 9 rfl) ?_
          refine lv_iload_n hx hb d_X_thousandthsOf_78 rfl (lv_at hl 3 rfl) ?_
          refine lv_icmp_ge (tgt := 88) hx hb d_X_thousandthsOf_79 (by decide) (fun c_9 => ?_) (fun c_9 => ?_)
          · skip
            obtain ⟨v_10, ev_10⟩ : ∃ y : Int32, y = nI j + 1 := ⟨_, rfl⟩
            refine lv_iinc (v := v_10) (lv' := [(14, .int v_10), (10, .long v_3), (15, .long v_2), (0, .ref h), (1, .int kx), (2, .long t), (4, .long all), (6, .long gr), (8, .long rest), (12, .long y)]) hx hb d_X_thousandthsOf_88 hl (k := 9) rfl (by rw [ev_10]; rfl) (by decide) rfl (fun ls hl => ?_)
            refine lv_goto (tgt := 28) hx hb d_X_thousandthsOf_91 (by decide) ?_
            subst ev_10
            subst ev_3
            subst ev_2
            rw [nI_1] at hl
            have e2 : (nI j).toNatClampNeg = j := nI_clamp (by omega)
            try rw [e2] at c_4
            try rw [e2] at c_7
            try rw [e2] at c_9
            rw [e2] at hl
            have e1 : j + (q + 1) = (j + 1) + q := by omega
            rw [e1] at hP
            have ez : th_s rest (f_X_restOf (t * we j) all) y kx (nI j) = y := by unfold th_s; rw [if_neg c_4, if_pos c_7, if_pos c_9]
            rw [show th_L we t all rest kx (q + 1) j x y = th_L we t all rest kx q (j + 1) (x + f_X_restOf (t * we j) all) (y) from congrArg (th_L we t all rest kx q (j + 1) (x + f_X_restOf (t * we j) all)) ez] at kk
            exact ih (j + 1) _ _ ls hP (by omega) (lv_sub hl [3, 4, 5, 6, 7, 8, 1, 9, 0] rfl) kk
          · skip
            refine lv_lload hx hb d_X_thousandthsOf_82 (lv_at hl 8 rfl) ?_
            refine lv_lconst (v := 1) hx hb d_X_thousandthsOf_84 (by decide) ?_
            refine lv_ladd hx hb d_X_thousandthsOf_85 ?_
            refine lv_topl (fun v_11 ev_11 => ?_)
            refine lv_lstore (lv' := [(12, .long v_11), (10, .long v_3), (15, .long v_2), (0, .ref h), (1, .int kx), (2, .long t), (4, .long all), (6, .long gr), (8, .long rest), (14, .int (nI j))]) hx hb d_X_thousandthsOf_86 hl (by decide) rfl (fun ls hl => ?_)
            obtain ⟨v_12, ev_12⟩ : ∃ y : Int32, y = nI j + 1 := ⟨_, rfl⟩
            refine lv_iinc (v := v_12) (lv' := [(14, .int v_12), (12, .long v_11), (10, .long v_3), (15, .long v_2), (0, .ref h), (1, .int kx), (2, .long t), (4, .long all), (6, .long gr), (8, .long rest)]) hx hb d_X_thousandthsOf_88 hl (k := 9) rfl (by rw [ev_12]; rfl) (by decide) rfl (fun ls hl => ?_)
            refine lv_goto (tgt := 28) hx hb d_X_thousandthsOf_91 (by decide) ?_
            subst ev_12
            subst ev_11
            subst ev_3
            subst ev_2
            rw [nI_1] at hl
            have e2 : (nI j).toNatClampNeg = j := nI_clamp (by omega)
            try rw [e2] at c_4
            try rw [e2] at c_7
            try rw [e2] at c_9
            rw [e2] at hl
            have e1 : j + (q + 1) = (j + 1) + q := by omega
            rw [e1] at hP
            have ez : th_s rest (f_X_restOf (t * we j) all) y kx (nI j) = (y + 1) := by unfold th_s; rw [if_neg c_4, if_pos c_7, if_neg c_9]
            rw [show th_L we t all rest kx (q + 1) j x y = th_L we t all rest kx q (j + 1) (x + f_X_restOf (t * we j) all) ((y + 1)) from congrArg (th_L we t all rest kx q (j + 1) (x + f_X_restOf (t * we j) all)) ez] at kk
            exact ih (j + 1) _ _ ls hP (by omega) (lv_sub hl [4, 5, 6, 7, 8, 9, 2, 1, 0] rfl) kk
def f_X_thousandthsOf (we : Nat → Int64) (k kx : Int32) (t all : Int64) : Int64 := if (f_X_quotientDown ((th_L we t all ((f_X_restOf (t * (we kx.toNatClampNeg)) all)) kx k.toNatClampNeg 0 0 0).1) all) ≤ ((th_L we t all ((f_X_restOf (t * (we kx.toNatClampNeg)) all)) kx k.toNatClampNeg 0 0 0).2) then (f_X_quotientDown (t * (we kx.toNatClampNeg)) all) else ((f_X_quotientDown (t * (we kx.toNatClampNeg)) all) + 1)
set_option maxHeartbeats 4000000 in
set_option maxRecDepth 100000 in
theorem k_X_thousandthsOf (l : Launch) (dC : Nat → ClassId) (dI : Nat → Nat → Nat) (cJ cI cT : ClassId) (h a1 a2 a3 a4 a5 : Nat) (n k : Int32) (we : Nat → Int64) (kx : Int32) (t all : Int64) (hk0 : 0 ≤ k.toInt) (hk : k.toInt ≤ (16 : Nat)) (hq : vp_in kx 16) : Met l y_X_thousandthsOf w_X_thousandthsOf ({ frames := 2, cells := 0, slots := 0, locals := 48 }) (va_Pc [.ref h, .int kx, .long t, .long all] (wd dC dI cJ cI cT [(h, .inr (1, [.ref a1, .ref a2, .ref a3, .int n, .ref a4, .int k, .ref a5])), (a4, .inl (cJ, 16, .inr (.inl we)))])) (k2_QcV (.long (f_X_thousandthsOf we k kx t all))) 0 0 (fun _ => False) := by
  refine Met.ofW (cc := c_X_thousandthsOf) (maxL := 18) (ret := (Option.some Jvm.ClassFile.FieldType.long)) (by decide) rfl ?_
  intro p e s m args below meth c s₁ B hml hv
  obtain ⟨rfl, hP, hK⟩ := hv
  have hx := B.exec
  have hb := B.bytes
  have hr := B.returns
  have hts := atoms_spec (ws := w_X_thousandthsOf) B.pre
  have hg : ∀ w ∈ WG, w.before _ s = true := fun w h => hts w (List.mem_cons_of_mem _ h)
  have hown : s.vm.findClass R_X = some m.cls := findClass_of_methodNamed B.named
  have hlocks := B.notSynchronized
  have hl := lv_entry ([.ref h, .int kx, .long t, .long all]) (n := 18) (Nat.le_of_ble_eq_true rfl)
  rw [lg_entry_eq]
  generalize (lg_sl ([.ref h, .int kx, .long t, .long all]) ++ List.replicate (18 - (lg_sl ([.ref h, .int kx, .long t, .long all])).length) Slot.unset).toArray = ls at hl ⊢
  have hl : lv_has ls 18 [(0, .ref h), (1, .int kx), (2, .long t), (4, .long all)] := hl
  have hP : va_P (dC, dI) classes [(h, .inr (1, [.ref a1, .ref a2, .ref a3, .int n, .ref a4, .int k, .ref a5])), (a4, .inl (cJ, 16, .inr (.inl we)))] s.heap := hP
  refine lv_lload_n hx hb d_X_thousandthsOf_0 rfl (lv_at hl 2 rfl) ?_
  refine lv_aload_n hx hb d_X_thousandthsOf_1 rfl (lv_at hl 0 rfl) ?_
  refine va_get (D := (dC, dI)) (ci := 1) (v := .ref a4) (C := R_X) (T := F_X) (N := 7) hx hb hg in_X hown hK hP 0 rfl rfl 4 (by decide) (hg _ wg_50) (fun _ h9 => h9) rfl d_X_thousandthsOf_2 ?_
  refine lv_iload_n hx hb d_X_thousandthsOf_5 rfl (lv_at hl 1 rfl) ?_
  refine va_lald hx hb hK hP 1 0 rfl rfl hq d_X_thousandthsOf_6 ?_
  refine lv_lmul hx hb d_X_thousandthsOf_7 ?_
  refine lv_topl (fun v_1 ev_1 => ?_)
  refine lv_lstore (lv' := [(6, .long v_1), (0, .ref h), (1, .int kx), (2, .long t), (4, .long all)]) hx hb d_X_thousandthsOf_8 hl (by decide) rfl (fun ls hl => ?_)
  refine lv_lload hx hb d_X_thousandthsOf_10 (lv_at hl 0 rfl) ?_
  refine lv_lload hx hb d_X_thousandthsOf_12 (lv_at hl 4 rfl) ?_
  refine W.callV (W.runS (As := [.long v_1, .long all]) (rest := []) ⟨hx, hb, hml, hown, hg⟩ (k_X_restOf l v_1 all) (q_S 2 hg wg_101 wg_99 wg_100 wg_13 rfl rfl (by decide +kernel) ⟨Nat.le_of_ble_eq_true rfl, Nat.le_of_ble_eq_true rfl⟩) ⟨nw_blind, fun _ _ _ => ⟨rfl, trivial⟩⟩ rfl rfl hl.1 rfl (lv_room (Nat.le_of_ble_eq_true rfl)) d_X_thousandthsOf_14 ⟨Nat.le_of_ble_eq_true rfl, Nat.le_of_ble_eq_true rfl⟩) ?_
  refine W.eq (g2 := F0 m 17 ls (.long (f_X_restOf v_1 all) :: [])) rfl ?_
  refine lv_topl (fun v_2 ev_2 => ?_)
  refine lv_lstore (lv' := [(8, .long v_2), (6, .long v_1), (0, .ref h), (1, .int kx), (2, .long t), (4, .long all)]) hx hb d_X_thousandthsOf_17 hl (by decide) rfl (fun ls hl => ?_)
  refine lv_lconst (v := 0) hx hb d_X_thousandthsOf_19 (by decide) ?_
  refine lv_lstore (lv' := [(10, .long 0), (8, .long v_2), (6, .long v_1), (0, .ref h), (1, .int kx), (2, .long t), (4, .long all)]) hx hb d_X_thousandthsOf_20 hl (by decide) rfl (fun ls hl => ?_)
  refine lv_lconst (v := 0) hx hb d_X_thousandthsOf_22 (by decide) ?_
  refine lv_lstore (lv' := [(12, .long 0), (10, .long 0), (8, .long v_2), (6, .long v_1), (0, .ref h), (1, .int kx), (2, .long t), (4, .long all)]) hx hb d_X_thousandthsOf_23 hl (by decide) rfl (fun ls hl => ?_)
  refine lv_iconst (v := 0) hx hb d_X_thousandthsOf_25 (by decide) ?_
  refine lv_istore (lv' := [(14, .int 0), (12, .long 0), (10, .long 0), (8, .long v_2), (6, .long v_1), (0, .ref h), (1, .int kx), (2, .long t), (4, .long all)]) hx hb d_X_thousandthsOf_26 hl (by decide) rfl (fun ls hl => ?_)
  subst ev_2
  subst ev_1
  obtain ⟨q, hq9, eq9⟩ := nI_of (x := k) (fun hh => by rw [Int32.lt_iff_toInt_lt] at hh; have e0 : (0 : Int32).toInt = 0 := rfl; omega)
  have eq2 : k.toNatClampNeg = q := by rw [eq9]; exact nI_clamp hq9
  have eq3 : k.toInt = q := by rw [eq9]; exact nI_toInt hq9
  have eq4 : k = nI (0 + q) := by rw [Nat.zero_add]; exact eq9
  refine lp_X_thousandthsOf (k := k) (we := we) (gr := (t * (we kx.toNatClampNeg))) (rest := (f_X_restOf (t * (we kx.toNatClampNeg)) all)) hx hb hg hown hml ⟨Nat.le_of_ble_eq_true rfl, Nat.le_of_ble_eq_true rfl⟩ (Nat.zero_le _) (Nat.zero_le _) hK q 0 _ _ ls (by rw [← eq4]; exact hP) (by omega) (lv_sub hl [5, 6, 7, 8, 4, 3, 2, 1, 0] rfl) (fun ls hl => ?_)
  rw [← eq2] at hl
  refine lv_lload hx hb d_X_thousandthsOf_94 (lv_at hl 2 rfl) ?_
  refine lv_lload hx hb d_X_thousandthsOf_96 (lv_at hl 0 rfl) ?_
  refine W.callV (W.runS (As := [.long ((th_L we t all ((f_X_restOf (t * (we kx.toNatClampNeg)) all)) kx k.toNatClampNeg 0 0 0).1), .long all]) (rest := []) ⟨hx, hb, hml, hown, hg⟩ (k_X_quotientDown l ((th_L we t all ((f_X_restOf (t * (we kx.toNatClampNeg)) all)) kx k.toNatClampNeg 0 0 0).1) all) (q_S 2 hg wg_95 wg_93 wg_94 wg_13 rfl rfl (by decide +kernel) ⟨Nat.le_of_ble_eq_true rfl, Nat.le_of_ble_eq_true rfl⟩) ⟨nw_blind, fun _ _ _ => ⟨rfl, trivial⟩⟩ rfl rfl hl.1 rfl (lv_room (Nat.le_of_ble_eq_true rfl)) d_X_thousandthsOf_98 ⟨Nat.le_of_ble_eq_true rfl, Nat.le_of_ble_eq_true rfl⟩) ?_
  refine W.eq (g2 := F0 m 101 ls (.long (f_X_quotientDown ((th_L we t all ((f_X_restOf (t * (we kx.toNatClampNeg)) all)) kx k.toNatClampNeg 0 0 0).1) all) :: [])) rfl ?_
  refine lv_topl (fun v_3 ev_3 => ?_)
  refine lv_lstore (lv' := [(14, .long v_3), (4, .long all), (6, .long (t * (we kx.toNatClampNeg))), (10, .long ((th_L we t all ((f_X_restOf (t * (we kx.toNatClampNeg)) all)) kx k.toNatClampNeg 0 0 0).1)), (12, .long ((th_L we t all ((f_X_restOf (t * (we kx.toNatClampNeg)) all)) kx k.toNatClampNeg 0 0 0).2))]) hx hb d_X_thousandthsOf_101 hl (by decide) rfl (fun ls hl => ?_)
  refine lv_lload hx hb d_X_thousandthsOf_103 (lv_at hl 2 rfl) ?_
  refine lv_lload hx hb d_X_thousandthsOf_105 (lv_at hl 1 rfl) ?_
  refine W.callV (W.runS (As := [.long (t * (we kx.toNatClampNeg)), .long all]) (rest := []) ⟨hx, hb, hml, hown, hg⟩ (k_X_quotientDown l (t * (we kx.toNatClampNeg)) all) (q_S 2 hg wg_95 wg_93 wg_94 wg_13 rfl rfl (by decide +kernel) ⟨Nat.le_of_ble_eq_true rfl, Nat.le_of_ble_eq_true rfl⟩) ⟨nw_blind, fun _ _ _ => ⟨rfl, trivial⟩⟩ rfl rfl hl.1 rfl (lv_room (Nat.le_of_ble_eq_true rfl)) d_X_thousandthsOf_107 ⟨Nat.le_of_ble_eq_true rfl, Nat.le_of_ble_eq_true rfl⟩) ?_
  refine W.eq (g2 := F0 m 110 ls (.long (f_X_quotientDown (t * (we kx.toNatClampNeg)) all) :: [])) rfl ?_
  refine lv_topl (fun v_4 ev_4 => ?_)
  refine lv_lstore (lv' := [(16, .long v_4), (14, .long v_3), (4, .long all), (6, .long (t * (we kx.toNatClampNeg))), (10, .long ((th_L we t all ((f_X_restOf (t * (we kx.toNatClampNeg)) all)) kx k.toNatClampNeg 0 0 0).1)), (12, .long ((th_L we t all ((f_X_restOf (t * (we kx.toNatClampNeg)) all)) kx k.toNatClampNeg 0 0 0).2))]) hx hb d_X_thousandthsOf_110 hl (by decide) rfl (fun ls hl => ?_)
  refine lv_lload hx hb d_X_thousandthsOf_112 (lv_at hl 5 rfl) ?_
  refine lv_lload hx hb d_X_thousandthsOf_114 (lv_at hl 1 rfl) ?_
  refine W.lcmp hx hb d_X_thousandthsOf_116 ?_
  refine lv_if_ge (tgt := 127) hx hb d_X_thousandthsOf_117 (by decide) (fun c_5 => ?_) (fun c_5 => ?_)
  · skip
    rw [lg_cmp_ge] at c_5
    refine lv_lload hx hb d_X_thousandthsOf_127 (lv_at hl 0 rfl) ?_
    subst ev_4
    subst ev_3
    have hz : f_X_thousandthsOf we k kx t all = (f_X_quotientDown (t * (we kx.toNatClampNeg)) all) := by unfold f_X_thousandthsOf; rw [if_pos c_5]
    exact W.lret hx hb hr (fun t ht _ => ⟨by rw [hz], ht⟩) (fun _ h => by cases h) d_X_thousandthsOf_129
  · skip
    rw [lg_cmp_ge] at c_5
    refine lv_lload hx hb d_X_thousandthsOf_120 (lv_at hl 0 rfl) ?_
    refine lv_lconst (v := 1) hx hb d_X_thousandthsOf_122 (by decide) ?_
    refine lv_ladd hx hb d_X_thousandthsOf_123 ?_
    refine lv_goto (tgt := 129) hx hb d_X_thousandthsOf_124 (by decide) ?_
    subst ev_4
    subst ev_3
    have hz : f_X_thousandthsOf we k kx t all = (f_X_quotientDown (t * (we kx.toNatClampNeg)) all) + 1 := by unfold f_X_thousandthsOf; rw [if_neg c_5]
    exact W.lret hx hb hr (fun t ht _ => ⟨by rw [hz], ht⟩) (fun _ h => by cases h) d_X_thousandthsOf_129
def f_X_share (ab be : Nat → Int64) (un : Nat → Int32) (n : Int32) (we : Nat → Int64) (k a kx : Int32) : Int32 × (Nat → Int64) × (Nat → Int64) × (Nat → Int32) × Int32 := if (f_X_isAmount a n) = 0 then ((-3), (ab, be, un, n)) else if kx < 0 then ((-3), (ab, be, un, n)) else if kx < k then if (ab a.toNatClampNeg) < 0 then ((-1), (ab, be, un, n)) else if (f_X_sumOfWeights we k) = 0 then ((-1), (ab, be, un, n)) else if kx ≤ 0 then (f_X_keep ab be un n (((f_X_thousandthsOf we k kx (f_X_quotientDown ((ab a.toNatClampNeg) * 1000) (be a.toNatClampNeg)) (f_X_sumOfWeights we k)) * (be a.toNatClampNeg)) + (f_X_restOf ((ab a.toNatClampNeg) * 1000) (be a.toNatClampNeg))) (1000 * (be a.toNatClampNeg)) (un a.toNatClampNeg)) else (f_X_keep ab be un n (f_X_thousandthsOf we k kx (f_X_quotientDown ((ab a.toNatClampNeg) * 1000) (be a.toNatClampNeg)) (f_X_sumOfWeights we k)) 1000 (un a.toNatClampNeg)) else ((-3), (ab, be, un, n))
set_option maxHeartbeats 4000000 in
set_option maxRecDepth 100000 in
theorem k_X_share (l : Launch) (dC : Nat → ClassId) (dI : Nat → Nat → Nat) (cJ cI cT : ClassId) (h a1 a2 a3 a4 a5 : Nat) (n k : Int32) (ab be : Nat → Int64) (un : Nat → Int32) (we : Nat → Int64) (a kx : Int32) (sz : Nat) (hn0 : 0 ≤ n.toInt) (hn : n.toInt ≤ (500 : Nat)) (hk0 : 0 ≤ k.toInt) (hk : k.toInt ≤ (16 : Nat)) : Met l y_X_share w_X_share ({ frames := 3, cells := 0, slots := 0, locals := 85 }) (va_Pc [.ref h, .int a, .int kx] (wx dC dI cJ cI cT sz [(h, .inr (1, [.ref a1, .ref a2, .ref a3, .int n, .ref a4, .int k, .ref a5])), (a1, .inl (cJ, 500, .inr (.inl ab))), (a2, .inl (cJ, 500, .inr (.inl be))), (a3, .inl (cI, 500, .inl un)), (a4, .inl (cJ, 16, .inr (.inl we)))])) (va_Qi (fun (r9 : Int32) (u9 : (Nat → Int64) × (Nat → Int64) × (Nat → Int32) × Int32) => (r9, u9) = f_X_share ab be un n we k a kx) (fun u => wb dC dI cJ cI cT (va_A [(h, .inr (1, [.ref a1, .ref a2, .ref a3, .int n, .ref a4, .int k, .ref a5])), (a1, .inl (cJ, 500, .inr (.inl ab))), (a2, .inl (cJ, 500, .inr (.inl be))), (a3, .inl (cI, 500, .inl un)), (a4, .inl (cJ, 16, .inr (.inl we)))] sz) [(h, .inr (1, [.ref a1, .ref a2, .ref a3, .int u.2.2.2, .ref a4, .int k, .ref a5])), (a1, .inl (cJ, 500, .inr (.inl u.1))), (a2, .inl (cJ, 500, .inr (.inl u.2.1))), (a3, .inl (cI, 500, .inl u.2.2.1)), (a4, .inl (cJ, 16, .inr (.inl we)))]) (va_A [(h, .inr (1, [.ref a1, .ref a2, .ref a3, .int n, .ref a4, .int k, .ref a5])), (a1, .inl (cJ, 500, .inr (.inl ab))), (a2, .inl (cJ, 500, .inr (.inl be))), (a3, .inl (cI, 500, .inl un)), (a4, .inl (cJ, 16, .inr (.inl we)))] sz)) 0 0 (va_A [(h, .inr (1, [.ref a1, .ref a2, .ref a3, .int n, .ref a4, .int k, .ref a5])), (a1, .inl (cJ, 500, .inr (.inl ab))), (a2, .inl (cJ, 500, .inr (.inl be))), (a3, .inl (cI, 500, .inl un)), (a4, .inl (cJ, 16, .inr (.inl we)))] sz) := by
  refine Met.ofW (cc := c_X_share) (maxL := 11) (ret := (Option.some Jvm.ClassFile.FieldType.int)) (by decide) rfl ?_
  intro p e s m args below meth c s₁ B hml hv
  obtain ⟨rfl, hsz, hP, hK, hD0⟩ := hv
  have hx := B.exec
  have hb := B.bytes
  have hr := B.returns
  have hts := atoms_spec (ws := w_X_share) B.pre
  have hg : ∀ w ∈ WG, w.before _ s = true := fun w h => hts w (List.mem_cons_of_mem _ h)
  have hown : s.vm.findClass R_X = some m.cls := findClass_of_methodNamed B.named
  have hlocks := B.notSynchronized
  have hl := lv_entry ([.ref h, .int a, .int kx]) (n := 11) (Nat.le_of_ble_eq_true rfl)
  rw [lg_entry_eq]
  generalize (lg_sl ([.ref h, .int a, .int kx]) ++ List.replicate (11 - (lg_sl ([.ref h, .int a, .int kx])).length) Slot.unset).toArray = ls at hl ⊢
  have hl : lv_has ls 11 [(0, .ref h), (1, .int a), (2, .int kx)] := hl
  subst hsz
  have hD := hD0.self (sz := s.heap.size)
  generalize hAe : va_A [(h, .inr (1, [.ref a1, .ref a2, .ref a3, .int n, .ref a4, .int k, .ref a5])), (a1, .inl (cJ, 500, .inr (.inl ab))), (a2, .inl (cJ, 500, .inr (.inl be))), (a3, .inl (cI, 500, .inl un)), (a4, .inl (cJ, 16, .inr (.inl we)))] s.heap.size = A at hD ⊢
  have hA : ∀ q : Nat, s.heap.size ≤ q → A q := fun q h => by rw [← hAe]; exact Or.inr h
  have hS : va_S A s.heap s.heap [] := va_S.rf
  have hP : va_P (dC, dI) classes [(h, .inr (1, [.ref a1, .ref a2, .ref a3, .int n, .ref a4, .int k, .ref a5])), (a1, .inl (cJ, 500, .inr (.inl ab))), (a2, .inl (cJ, 500, .inr (.inl be))), (a3, .inl (cI, 500, .inl un)), (a4, .inl (cJ, 16, .inr (.inl we)))] s.heap := hP
  have hD : va_D A [(h, .inr (1, [.ref a1, .ref a2, .ref a3, .int n, .ref a4, .int k, .ref a5])), (a1, .inl (cJ, 500, .inr (.inl ab))), (a2, .inl (cJ, 500, .inr (.inl be))), (a3, .inl (cI, 500, .inl un)), (a4, .inl (cJ, 16, .inr (.inl we)))] := hD
  skip
  refine lv_aload_n hx hb d_X_share_0 rfl (lv_at hl 0 rfl) ?_
  refine lv_iload_n hx hb d_X_share_1 rfl (lv_at hl 1 rfl) ?_
  have hPc := hP.sub (ws' := [(h, .inr (1, [.ref a1, .ref a2, .ref a3, .int n, .ref a4, .int k, .ref a5]))]) [0] rfl
  refine W.callV (W.runV (As := [.int a]) (rest := []) ⟨hx, hb, hml, hown, hg⟩ (k_X_isAmount l dC dI cJ cI cT h a1 a2 a3 a4 a5 n k a) (q_V 1 hg wg_66 wg_64 wg_65 wg_0 wg_13 rfl rfl (by decide +kernel) ⟨Nat.le_of_ble_eq_true rfl, Nat.le_of_ble_eq_true rfl⟩) ⟨wd_blind, va_recv hK hPc (ci := 1) (q0 := 0) rfl rfl, wd_pre (as := .ref h :: [.int a]) hPc hK⟩ rfl rfl hl.1 rfl (lv_room (Nat.le_of_ble_eq_true rfl)) d_X_share_2 ⟨Nat.le_of_ble_eq_true rfl, Nat.le_of_ble_eq_true rfl⟩) ?_
  refine W.eq (g2 := F0 m 5 ls (.int (f_X_isAmount a n) :: [])) rfl ?_
  refine lv_if_eq (tgt := 20) hx hb d_X_share_5 (by decide) (fun c_1 => ?_) (fun c_1 => ?_)
  · skip
    refine lv_bipush (v := (-3)) hx hb d_X_share_20 (by decide) ?_
    have hP9 := hP.sub (ws' := [(h, .inr (1, [.ref a1, .ref a2, .ref a3, .int n, .ref a4, .int k, .ref a5])), (a1, .inl (cJ, 500, .inr (.inl ab))), (a2, .inl (cJ, 500, .inr (.inl be))), (a3, .inl (cI, 500, .inl un)), (a4, .inl (cJ, 16, .inr (.inl we)))]) [0, 1, 2, 3, 4] rfl
    have hD9 := hD.sub (ws' := [(h, .inr (1, [.ref a1, .ref a2, .ref a3, .int n, .ref a4, .int k, .ref a5])), (a1, .inl (cJ, 500, .inr (.inl ab))), (a2, .inl (cJ, 500, .inr (.inl be))), (a3, .inl (cI, 500, .inl un)), (a4, .inl (cJ, 16, .inr (.inl we)))]) [0, 1, 2, 3, 4] (by decide) rfl
    have hz : ((-3), (ab, be, un, n)) = f_X_share ab be un n we k a kx := by unfold f_X_share; rw [if_pos c_1]
    exact W.iret (v := (-3)) hx hb hr (fun t ht hW => ⟨⟨(-3), (ab, be, un, n), rfl, hz, wb_of ht hW hP9 hK hD9⟩, hS.F ht⟩) hS.2.2 d_X_share_22
  · skip
    refine lv_iload_n hx hb d_X_share_8 rfl (lv_at hl 2 rfl) ?_
    refine lv_if_lt (tgt := 20) hx hb d_X_share_9 (by decide) (fun c_2 => ?_) (fun c_2 => ?_)
    · skip
      refine lv_bipush (v := (-3)) hx hb d_X_share_20 (by decide) ?_
      have hP9 := hP.sub (ws' := [(h, .inr (1, [.ref a1, .ref a2, .ref a3, .int n, .ref a4, .int k, .ref a5])), (a1, .inl (cJ, 500, .inr (.inl ab))), (a2, .inl (cJ, 500, .inr (.inl be))), (a3, .inl (cI, 500, .inl un)), (a4, .inl (cJ, 16, .inr (.inl we)))]) [0, 1, 2, 3, 4] rfl
      have hD9 := hD.sub (ws' := [(h, .inr (1, [.ref a1, .ref a2, .ref a3, .int n, .ref a4, .int k, .ref a5])), (a1, .inl (cJ, 500, .inr (.inl ab))), (a2, .inl (cJ, 500, .inr (.inl be))), (a3, .inl (cI, 500, .inl un)), (a4, .inl (cJ, 16, .inr (.inl we)))]) [0, 1, 2, 3, 4] (by decide) rfl
      have hz : ((-3), (ab, be, un, n)) = f_X_share ab be un n we k a kx := by unfold f_X_share; rw [if_neg c_1, if_pos c_2]
      exact W.iret (v := (-3)) hx hb hr (fun t ht hW => ⟨⟨(-3), (ab, be, un, n), rfl, hz, wb_of ht hW hP9 hK hD9⟩, hS.F ht⟩) hS.2.2 d_X_share_22
    · skip
      refine lv_iload_n hx hb d_X_share_12 rfl (lv_at hl 2 rfl) ?_
      refine lv_aload_n hx hb d_X_share_13 rfl (lv_at hl 0 rfl) ?_
      refine va_get (D := (dC, dI)) (ci := 1) (v := .int k) (C := R_X) (T := F_X) (N := 7) hx hb hg in_X hown hK hP 0 rfl rfl 5 (by decide) (hg _ wg_51) (fun _ h9 => h9) rfl d_X_share_14 ?_
      refine lv_icmp_lt (tgt := 23) hx hb d_X_share_17 (by decide) (fun c_3 => ?_) (fun c_3 => ?_)
      · skip
        refine lv_aload_n hx hb d_X_share_23 rfl (lv_at hl 0 rfl) ?_
        have hPc := hP.sub (ws' := [(h, .inr (1, [.ref a1, .ref a2, .ref a3, .int n, .ref a4, .int k, .ref a5])), (a4, .inl (cJ, 16, .inr (.inl we)))]) [0, 4] rfl
        refine W.callV (W.runV (As := []) (rest := []) ⟨hx, hb, hml, hown, hg⟩ (k_X_sumOfWeights l dC dI cJ cI cT h a1 a2 a3 a4 a5 n k we hk0 hk) (q_V 0 hg wg_153 wg_151 wg_152 wg_7 wg_13 rfl rfl (by decide +kernel) ⟨Nat.le_of_ble_eq_true rfl, Nat.le_of_ble_eq_true rfl⟩) ⟨wd_blind, va_recv hK hPc (ci := 1) (q0 := 0) rfl rfl, wd_pre (as := .ref h :: []) hPc hK⟩ rfl rfl hl.1 rfl (lv_room (Nat.le_of_ble_eq_true rfl)) d_X_share_24 ⟨Nat.le_of_ble_eq_true rfl, Nat.le_of_ble_eq_true rfl⟩) ?_
        refine W.eq (g2 := F0 m 27 ls (.long (f_X_sumOfWeights we k) :: [])) rfl ?_
        refine lv_topl (fun v_4 ev_4 => ?_)
        refine lv_lstore_n (lv' := [(3, .long v_4), (0, .ref h), (1, .int a), (2, .int kx)]) hx hb d_X_share_27 rfl hl (by decide) rfl (fun ls hl => ?_)
        refine lv_aload_n hx hb d_X_share_28 rfl (lv_at hl 1 rfl) ?_
        refine va_get (D := (dC, dI)) (ci := 1) (v := .ref a1) (C := R_X) (T := F_X) (N := 7) hx hb hg in_X hown hK hP 0 rfl rfl 0 (by decide) (hg _ wg_46) (fun _ h9 => h9) rfl d_X_share_29 ?_
        refine lv_iload_n hx hb d_X_share_32 rfl (lv_at hl 2 rfl) ?_
        refine va_lald hx hb hK hP 1 0 rfl rfl (am_in c_1 hn) d_X_share_33 ?_
        refine lv_lconst (v := 0) hx hb d_X_share_34 (by decide) ?_
        refine W.lcmp hx hb d_X_share_35 ?_
        refine lv_if_lt (tgt := 45) hx hb d_X_share_36 (by decide) (fun c_5 => ?_) (fun c_5 => ?_)
        · skip
          rw [lg_cmp_lt] at c_5
          refine lv_iconst (v := (-1)) hx hb d_X_share_45 (by decide) ?_
          subst ev_4
          have hP9 := hP.sub (ws' := [(h, .inr (1, [.ref a1, .ref a2, .ref a3, .int n, .ref a4, .int k, .ref a5])), (a1, .inl (cJ, 500, .inr (.inl ab))), (a2, .inl (cJ, 500, .inr (.inl be))), (a3, .inl (cI, 500, .inl un)), (a4, .inl (cJ, 16, .inr (.inl we)))]) [0, 1, 2, 3, 4] rfl
          have hD9 := hD.sub (ws' := [(h, .inr (1, [.ref a1, .ref a2, .ref a3, .int n, .ref a4, .int k, .ref a5])), (a1, .inl (cJ, 500, .inr (.inl ab))), (a2, .inl (cJ, 500, .inr (.inl be))), (a3, .inl (cI, 500, .inl un)), (a4, .inl (cJ, 16, .inr (.inl we)))]) [0, 1, 2, 3, 4] (by decide) rfl
          have hz : ((-1), (ab, be, un, n)) = f_X_share ab be un n we k a kx := by unfold f_X_share; rw [if_neg c_1, if_neg c_2, if_pos c_3, if_pos c_5]
          exact W.iret (v := (-1)) hx hb hr (fun t ht hW => ⟨⟨(-1), (ab, be, un, n), rfl, hz, wb_of ht hW hP9 hK hD9⟩, hS.F ht⟩) hS.2.2 d_X_share_46
        · skip
          rw [lg_cmp_lt] at c_5
          refine lv_lload_n hx hb d_X_share_39 rfl (lv_at hl 0 rfl) ?_
          refine lv_lconst (v := 0) hx hb d_X_share_40 (by decide) ?_
          refine W.lcmp hx hb d_X_share_41 ?_
          refine lv_if_ne (tgt := 47) hx hb d_X_share_42 (by decide) (fun c_6 => ?_) (fun c_6 => ?_)
          · skip
            rw [lg_cmp_eq] at c_6
            refine lv_aload_n hx hb d_X_share_47 rfl (lv_at hl 1 rfl) ?_
            refine va_get (D := (dC, dI)) (ci := 1) (v := .ref a1) (C := R_X) (T := F_X) (N := 7) hx hb hg in_X hown hK hP 0 rfl rfl 0 (by decide) (hg _ wg_46) (fun _ h9 => h9) rfl d_X_share_48 ?_
            refine lv_iload_n hx hb d_X_share_51 rfl (lv_at hl 2 rfl) ?_
            refine va_lald hx hb hK hP 1 0 rfl rfl (am_in c_1 hn) d_X_share_52 ?_
            refine lv_ldc2 (v := 1000) hx hb hown (hg _ wg_154) d_X_share_53 ?_
            refine lv_lmul hx hb d_X_share_56 ?_
            refine lv_topl (fun v_7 ev_7 => ?_)
            refine lv_lstore (lv' := [(5, .long v_7), (3, .long v_4), (0, .ref h), (1, .int a), (2, .int kx)]) hx hb d_X_share_57 hl (by decide) rfl (fun ls hl => ?_)
            refine lv_aload_n hx hb d_X_share_59 rfl (lv_at hl 2 rfl) ?_
            refine va_get (D := (dC, dI)) (ci := 1) (v := .ref a2) (C := R_X) (T := F_X) (N := 7) hx hb hg in_X hown hK hP 0 rfl rfl 1 (by decide) (hg _ wg_47) (fun _ h9 => h9) rfl d_X_share_60 ?_
            refine lv_iload_n hx hb d_X_share_63 rfl (lv_at hl 3 rfl) ?_
            refine va_lald hx hb hK hP 2 0 rfl rfl (am_in c_1 hn) d_X_share_64 ?_
            refine lv_topl (fun v_8 ev_8 => ?_)
            refine lv_lstore (lv' := [(7, .long v_8), (5, .long v_7), (3, .long v_4), (0, .ref h), (1, .int a), (2, .int kx)]) hx hb d_X_share_65 hl (by decide) rfl (fun ls hl => ?_)
            refine lv_aload_n hx hb d_X_share_67 rfl (lv_at hl 3 rfl) ?_
            refine lv_iload_n hx hb d_X_share_68 rfl (lv_at hl 5 rfl) ?_
            refine lv_lload hx hb d_X_share_69 (lv_at hl 1 rfl) ?_
            refine lv_lload hx hb d_X_share_71 (lv_at hl 0 rfl) ?_
            refine W.callV (W.runS (As := [.long v_7, .long v_8]) (rest := [.int kx, .ref h]) ⟨hx, hb, hml, hown, hg⟩ (k_X_quotientDown l v_7 v_8) (q_S 2 hg wg_95 wg_93 wg_94 wg_13 rfl rfl (by decide +kernel) ⟨Nat.le_of_ble_eq_true rfl, Nat.le_of_ble_eq_true rfl⟩) ⟨nw_blind, fun _ _ _ => ⟨rfl, trivial⟩⟩ rfl rfl hl.1 rfl (lv_room (Nat.le_of_ble_eq_true rfl)) d_X_share_73 ⟨Nat.le_of_ble_eq_true rfl, Nat.le_of_ble_eq_true rfl⟩) ?_
            refine W.eq (g2 := F0 m 76 ls (.long (f_X_quotientDown v_7 v_8) :: [.int kx, .ref h])) rfl ?_
            refine lv_lload_n hx hb d_X_share_76 rfl (lv_at hl 2 rfl) ?_
            have hPc := hP.sub (ws' := [(h, .inr (1, [.ref a1, .ref a2, .ref a3, .int n, .ref a4, .int k, .ref a5])), (a4, .inl (cJ, 16, .inr (.inl we)))]) [0, 4] rfl
            refine W.callV (W.runV (As := [.int kx, .long (f_X_quotientDown v_7 v_8), .long v_4]) (rest := []) ⟨hx, hb, hml, hown, hg⟩ (k_X_thousandthsOf l dC dI cJ cI cT h a1 a2 a3 a4 a5 n k we kx (f_X_quotientDown v_7 v_8) v_4 hk0 hk (in_lt c_2 c_3 hk)) (q_V 3 hg wg_157 wg_155 wg_156 wg_8 wg_13 rfl rfl (by decide +kernel) ⟨Nat.le_of_ble_eq_true rfl, Nat.le_of_ble_eq_true rfl⟩) ⟨wd_blind, va_recv hK hPc (ci := 1) (q0 := 0) rfl rfl, wd_pre (as := .ref h :: [.int kx, .long (f_X_quotientDown v_7 v_8), .long v_4]) hPc hK⟩ rfl rfl hl.1 rfl (lv_room (Nat.le_of_ble_eq_true rfl)) d_X_share_77 ⟨Nat.le_of_ble_eq_true rfl, Nat.le_of_ble_eq_true rfl⟩) ?_
            refine W.eq (g2 := F0 m 80 ls (.long (f_X_thousandthsOf we k kx (f_X_quotientDown v_7 v_8) v_4) :: [])) rfl ?_
            refine lv_topl (fun v_9 ev_9 => ?_)
            refine lv_lstore (lv' := [(9, .long v_9), (7, .long v_8), (5, .long v_7), (3, .long v_4), (0, .ref h), (1, .int a), (2, .int kx)]) hx hb d_X_share_80 hl (by decide) rfl (fun ls hl => ?_)
            refine lv_iload_n hx hb d_X_share_82 rfl (lv_at hl 6 rfl) ?_
            refine lv_if_le (tgt := 102) hx hb d_X_share_83 (by decide) (fun c_10 => ?_) (fun c_10 => ?_)
            · skip
              refine lv_aload_n hx hb d_X_share_102 rfl (lv_at hl 4 rfl) ?_
              refine lv_lload hx hb d_X_share_103 (lv_at hl 0 rfl) ?_
              refine lv_lload hx hb d_X_share_105 (lv_at hl 1 rfl) ?_
              refine lv_lmul hx hb d_X_share_107 ?_
              refine lv_lload hx hb d_X_share_108 (lv_at hl 2 rfl) ?_
              refine lv_lload hx hb d_X_share_110 (lv_at hl 1 rfl) ?_
              refine W.callV (W.runS (As := [.long v_7, .long v_8]) (rest := [.long (v_9 * v_8), .ref h]) ⟨hx, hb, hml, hown, hg⟩ (k_X_restOf l v_7 v_8) (q_S 2 hg wg_101 wg_99 wg_100 wg_13 rfl rfl (by decide +kernel) ⟨Nat.le_of_ble_eq_true rfl, Nat.le_of_ble_eq_true rfl⟩) ⟨nw_blind, fun _ _ _ => ⟨rfl, trivial⟩⟩ rfl rfl hl.1 rfl (lv_room (Nat.le_of_ble_eq_true rfl)) d_X_share_112 ⟨Nat.le_of_ble_eq_true rfl, Nat.le_of_ble_eq_true rfl⟩) ?_
              refine W.eq (g2 := F0 m 115 ls (.long (f_X_restOf v_7 v_8) :: [.long (v_9 * v_8), .ref h])) rfl ?_
              refine lv_ladd hx hb d_X_share_115 ?_
              refine lv_ldc2 (v := 1000) hx hb hown (hg _ wg_154) d_X_share_116 ?_
              refine lv_lload hx hb d_X_share_119 (lv_at hl 1 rfl) ?_
              refine lv_lmul hx hb d_X_share_121 ?_
              refine lv_aload_n hx hb d_X_share_122 rfl (lv_at hl 4 rfl) ?_
              refine va_get (D := (dC, dI)) (ci := 1) (v := .ref a3) (C := R_X) (T := F_X) (N := 7) hx hb hg in_X hown hK hP 0 rfl rfl 2 (by decide) (hg _ wg_48) (fun _ h9 => h9) rfl d_X_share_123 ?_
              refine lv_iload_n hx hb d_X_share_126 rfl (lv_at hl 5 rfl) ?_
              refine va_iald hx hb hK hP 3 1 rfl rfl (am_in c_1 hn) d_X_share_127 ?_
              have hPc := hP.sub (ws' := [(h, .inr (1, [.ref a1, .ref a2, .ref a3, .int n, .ref a4, .int k, .ref a5])), (a1, .inl (cJ, 500, .inr (.inl ab))), (a2, .inl (cJ, 500, .inr (.inl be))), (a3, .inl (cI, 500, .inl un))]) [0, 1, 2, 3] rfl
              have hDc := hD.sub (ws' := [(h, .inr (1, [.ref a1, .ref a2, .ref a3, .int n, .ref a4, .int k, .ref a5])), (a1, .inl (cJ, 500, .inr (.inl ab))), (a2, .inl (cJ, 500, .inr (.inl be))), (a3, .inl (cI, 500, .inl un))]) [0, 1, 2, 3] (by decide) rfl
              have hFc := va_free (wc := [(h, .inr (1, [.ref a1, .ref a2, .ref a3, .int n, .ref a4, .int k, .ref a5])), (a1, .inl (cJ, 500, .inr (.inl ab))), (a2, .inl (cJ, 500, .inr (.inl be))), (a3, .inl (cI, 500, .inl un))]) hD hS hA [0, 1, 2, 3] rfl
              refine va_calli (va_runV (As := [.long ((v_9 * v_8) + (f_X_restOf v_7 v_8)), .long (1000 * v_8), .int (un a.toNatClampNeg)]) (rest := []) ⟨hx, hb, hml, hown, hg⟩ (k_X_keep l dC dI cJ cI cT h a1 a2 a3 a4 a5 n k ab be un ((v_9 * v_8) + (f_X_restOf v_7 v_8)) (1000 * v_8) (un a.toNatClampNeg) _ hn0) (q_V 3 hg wg_69 wg_67 wg_68 wg_1 wg_13 rfl rfl (by decide +kernel) ⟨Nat.le_of_ble_eq_true rfl, Nat.le_of_ble_eq_true rfl⟩) ⟨wx_blind, va_recv hK hPc (ci := 1) (q0 := 0) rfl rfl, wx_pre (as := .ref h :: [.long ((v_9 * v_8) + (f_X_restOf v_7 v_8)), .long (1000 * v_8), .int (un a.toNatClampNeg)]) hPc hK hDc⟩ rfl rfl hl.1 rfl (lv_room (Nat.le_of_ble_eq_true rfl)) d_X_share_128 ⟨Nat.le_of_ble_eq_true rfl, Nat.le_of_ble_eq_true rfl⟩) hS (fun q _ h => hFc q h) hFc (fun r_15 u t H1 locs ht hvm hw_16 hB hz1 hk1 hS => ?_)
              obtain ⟨ab_11, be_12, un_13, n_14⟩ := u
              obtain ⟨hP1, hK1, hD1⟩ := hB
              rw [ht] at hP1
              obtain ⟨hP, hD⟩ := va_join (wr := [(a4, .inl (cJ, 16, .inr (.inl we)))]) (w1 := [(h, .inr (1, [.ref a1, .ref a2, .ref a3, .int n_14, .ref a4, .int k, .ref a5])), (a1, .inl (cJ, 500, .inr (.inl ab_11))), (a2, .inl (cJ, 500, .inr (.inl be_12))), (a3, .inl (cI, 500, .inl un_13))]) hP hD [0, 1, 2, 3] [4] rfl rfl (by decide) (by decide) hk1 hFc hP1 hD1
              generalize H1 = H at hP hS ⊢
              have hP : va_P (dC, dI) classes [(a4, .inl (cJ, 16, .inr (.inl we))), (h, .inr (1, [.ref a1, .ref a2, .ref a3, .int n_14, .ref a4, .int k, .ref a5])), (a1, .inl (cJ, 500, .inr (.inl ab_11))), (a2, .inl (cJ, 500, .inr (.inl be_12))), (a3, .inl (cI, 500, .inl un_13))] H := hP
              have hD : va_D A [(a4, .inl (cJ, 16, .inr (.inl we))), (h, .inr (1, [.ref a1, .ref a2, .ref a3, .int n_14, .ref a4, .int k, .ref a5])), (a1, .inl (cJ, 500, .inr (.inl ab_11))), (a2, .inl (cJ, 500, .inr (.inl be_12))), (a3, .inl (cI, 500, .inl un_13))] := hD
              subst ev_9
              subst ev_8
              subst ev_7
              subst ev_4
              have hP9 := hP.sub (ws' := [(h, .inr (1, [.ref a1, .ref a2, .ref a3, .int n_14, .ref a4, .int k, .ref a5])), (a1, .inl (cJ, 500, .inr (.inl ab_11))), (a2, .inl (cJ, 500, .inr (.inl be_12))), (a3, .inl (cI, 500, .inl un_13)), (a4, .inl (cJ, 16, .inr (.inl we)))]) [1, 2, 3, 4, 0] rfl
              have hD9 := hD.sub (ws' := [(h, .inr (1, [.ref a1, .ref a2, .ref a3, .int n_14, .ref a4, .int k, .ref a5])), (a1, .inl (cJ, 500, .inr (.inl ab_11))), (a2, .inl (cJ, 500, .inr (.inl be_12))), (a3, .inl (cI, 500, .inl un_13)), (a4, .inl (cJ, 16, .inr (.inl we)))]) [1, 2, 3, 4, 0] (by decide) rfl
              have hz : (r_15, (ab_11, be_12, un_13, n_14)) = f_X_share ab be un n we k a kx := by unfold f_X_share; rw [if_neg c_1, if_neg c_2, if_pos c_3, if_neg c_5, if_neg c_6, if_pos c_10]; exact hw_16
              exact W.iret (v := r_15) hx hb hr (fun t ht hW => ⟨⟨r_15, (ab_11, be_12, un_13, n_14), rfl, hz, wb_of ht hW hP9 hK hD9⟩, hS.F ht⟩) hS.2.2 d_X_share_131
            · skip
              refine lv_aload_n hx hb d_X_share_86 rfl (lv_at hl 4 rfl) ?_
              refine lv_lload hx hb d_X_share_87 (lv_at hl 0 rfl) ?_
              refine lv_ldc2 (v := 1000) hx hb hown (hg _ wg_154) d_X_share_89 ?_
              refine lv_aload_n hx hb d_X_share_92 rfl (lv_at hl 4 rfl) ?_
              refine va_get (D := (dC, dI)) (ci := 1) (v := .ref a3) (C := R_X) (T := F_X) (N := 7) hx hb hg in_X hown hK hP 0 rfl rfl 2 (by decide) (hg _ wg_48) (fun _ h9 => h9) rfl d_X_share_93 ?_
              refine lv_iload_n hx hb d_X_share_96 rfl (lv_at hl 5 rfl) ?_
              refine va_iald hx hb hK hP 3 1 rfl rfl (am_in c_1 hn) d_X_share_97 ?_
              have hPc := hP.sub (ws' := [(h, .inr (1, [.ref a1, .ref a2, .ref a3, .int n, .ref a4, .int k, .ref a5])), (a1, .inl (cJ, 500, .inr (.inl ab))), (a2, .inl (cJ, 500, .inr (.inl be))), (a3, .inl (cI, 500, .inl un))]) [0, 1, 2, 3] rfl
              have hDc := hD.sub (ws' := [(h, .inr (1, [.ref a1, .ref a2, .ref a3, .int n, .ref a4, .int k, .ref a5])), (a1, .inl (cJ, 500, .inr (.inl ab))), (a2, .inl (cJ, 500, .inr (.inl be))), (a3, .inl (cI, 500, .inl un))]) [0, 1, 2, 3] (by decide) rfl
              have hFc := va_free (wc := [(h, .inr (1, [.ref a1, .ref a2, .ref a3, .int n, .ref a4, .int k, .ref a5])), (a1, .inl (cJ, 500, .inr (.inl ab))), (a2, .inl (cJ, 500, .inr (.inl be))), (a3, .inl (cI, 500, .inl un))]) hD hS hA [0, 1, 2, 3] rfl
              refine va_calli (va_runV (As := [.long v_9, .long 1000, .int (un a.toNatClampNeg)]) (rest := []) ⟨hx, hb, hml, hown, hg⟩ (k_X_keep l dC dI cJ cI cT h a1 a2 a3 a4 a5 n k ab be un v_9 1000 (un a.toNatClampNeg) _ hn0) (q_V 3 hg wg_69 wg_67 wg_68 wg_1 wg_13 rfl rfl (by decide +kernel) ⟨Nat.le_of_ble_eq_true rfl, Nat.le_of_ble_eq_true rfl⟩) ⟨wx_blind, va_recv hK hPc (ci := 1) (q0 := 0) rfl rfl, wx_pre (as := .ref h :: [.long v_9, .long 1000, .int (un a.toNatClampNeg)]) hPc hK hDc⟩ rfl rfl hl.1 rfl (lv_room (Nat.le_of_ble_eq_true rfl)) d_X_share_98 ⟨Nat.le_of_ble_eq_true rfl, Nat.le_of_ble_eq_true rfl⟩) hS (fun q _ h => hFc q h) hFc (fun r_21 u t H1 locs ht hvm hw_22 hB hz1 hk1 hS => ?_)
              obtain ⟨ab_17, be_18, un_19, n_20⟩ := u
              obtain ⟨hP1, hK1, hD1⟩ := hB
              rw [ht] at hP1
              obtain ⟨hP, hD⟩ := va_join (wr := [(a4, .inl (cJ, 16, .inr (.inl we)))]) (w1 := [(h, .inr (1, [.ref a1, .ref a2, .ref a3, .int n_20, .ref a4, .int k, .ref a5])), (a1, .inl (cJ, 500, .inr (.inl ab_17))), (a2, .inl (cJ, 500, .inr (.inl be_18))), (a3, .inl (cI, 500, .inl un_19))]) hP hD [0, 1, 2, 3] [4] rfl rfl (by decide) (by decide) hk1 hFc hP1 hD1
              generalize H1 = H at hP hS ⊢
              have hP : va_P (dC, dI) classes [(a4, .inl (cJ, 16, .inr (.inl we))), (h, .inr (1, [.ref a1, .ref a2, .ref a3, .int n_20, .ref a4, .int k, .ref a5])), (a1, .inl (cJ, 500, .inr (.inl ab_17))), (a2, .inl (cJ, 500, .inr (.inl be_18))), (a3, .inl (cI, 500, .inl un_19))] H := hP
              have hD : va_D A [(a4, .inl (cJ, 16, .inr (.inl we))), (h, .inr (1, [.ref a1, .ref a2, .ref a3, .int n_20, .ref a4, .int k, .ref a5])), (a1, .inl (cJ, 500, .inr (.inl ab_17))), (a2, .inl (cJ, 500, .inr (.inl be_18))), (a3, .inl (cI, 500, .inl un_19))] := hD
              subst ev_9
              subst ev_8
              subst ev_7
              subst ev_4
              have hP9 := hP.sub (ws' := [(h, .inr (1, [.ref a1, .ref a2, .ref a3, .int n_20, .ref a4, .int k, .ref a5])), (a1, .inl (cJ, 500, .inr (.inl ab_17))), (a2, .inl (cJ, 500, .inr (.inl be_18))), (a3, .inl (cI, 500, .inl un_19)), (a4, .inl (cJ, 16, .inr (.inl we)))]) [1, 2, 3, 4, 0] rfl
              have hD9 := hD.sub (ws' := [(h, .inr (1, [.ref a1, .ref a2, .ref a3, .int n_20, .ref a4, .int k, .ref a5])), (a1, .inl (cJ, 500, .inr (.inl ab_17))), (a2, .inl (cJ, 500, .inr (.inl be_18))), (a3, .inl (cI, 500, .inl un_19)), (a4, .inl (cJ, 16, .inr (.inl we)))]) [1, 2, 3, 4, 0] (by decide) rfl
              have hz : (r_21, (ab_17, be_18, un_19, n_20)) = f_X_share ab be un n we k a kx := by unfold f_X_share; rw [if_neg c_1, if_neg c_2, if_pos c_3, if_neg c_5, if_neg c_6, if_neg c_10]; exact hw_22
              exact W.iret (v := r_21) hx hb hr (fun t ht hW => ⟨⟨r_21, (ab_17, be_18, un_19, n_20), rfl, hz, wb_of ht hW hP9 hK hD9⟩, hS.F ht⟩) hS.2.2 d_X_share_101
          · skip
            rw [lg_cmp_eq] at c_6
            refine lv_iconst (v := (-1)) hx hb d_X_share_45 (by decide) ?_
            subst ev_4
            have hP9 := hP.sub (ws' := [(h, .inr (1, [.ref a1, .ref a2, .ref a3, .int n, .ref a4, .int k, .ref a5])), (a1, .inl (cJ, 500, .inr (.inl ab))), (a2, .inl (cJ, 500, .inr (.inl be))), (a3, .inl (cI, 500, .inl un)), (a4, .inl (cJ, 16, .inr (.inl we)))]) [0, 1, 2, 3, 4] rfl
            have hD9 := hD.sub (ws' := [(h, .inr (1, [.ref a1, .ref a2, .ref a3, .int n, .ref a4, .int k, .ref a5])), (a1, .inl (cJ, 500, .inr (.inl ab))), (a2, .inl (cJ, 500, .inr (.inl be))), (a3, .inl (cI, 500, .inl un)), (a4, .inl (cJ, 16, .inr (.inl we)))]) [0, 1, 2, 3, 4] (by decide) rfl
            have hz : ((-1), (ab, be, un, n)) = f_X_share ab be un n we k a kx := by unfold f_X_share; rw [if_neg c_1, if_neg c_2, if_pos c_3, if_neg c_5, if_pos c_6]
            exact W.iret (v := (-1)) hx hb hr (fun t ht hW => ⟨⟨(-1), (ab, be, un, n), rfl, hz, wb_of ht hW hP9 hK hD9⟩, hS.F ht⟩) hS.2.2 d_X_share_46
      · skip
        refine lv_bipush (v := (-3)) hx hb d_X_share_20 (by decide) ?_
        have hP9 := hP.sub (ws' := [(h, .inr (1, [.ref a1, .ref a2, .ref a3, .int n, .ref a4, .int k, .ref a5])), (a1, .inl (cJ, 500, .inr (.inl ab))), (a2, .inl (cJ, 500, .inr (.inl be))), (a3, .inl (cI, 500, .inl un)), (a4, .inl (cJ, 16, .inr (.inl we)))]) [0, 1, 2, 3, 4] rfl
        have hD9 := hD.sub (ws' := [(h, .inr (1, [.ref a1, .ref a2, .ref a3, .int n, .ref a4, .int k, .ref a5])), (a1, .inl (cJ, 500, .inr (.inl ab))), (a2, .inl (cJ, 500, .inr (.inl be))), (a3, .inl (cI, 500, .inl un)), (a4, .inl (cJ, 16, .inr (.inl we)))]) [0, 1, 2, 3, 4] (by decide) rfl
        have hz : ((-3), (ab, be, un, n)) = f_X_share ab be un n we k a kx := by unfold f_X_share; rw [if_neg c_1, if_neg c_2, if_neg c_3]
        exact W.iret (v := (-3)) hx hb hr (fun t ht hW => ⟨⟨(-3), (ab, be, un, n), rfl, hz, wb_of ht hW hP9 hK hD9⟩, hS.F ht⟩) hS.2.2 d_X_share_22
end
section
def f_T_takes (xs : Nat → Int64) (tb : Int64) (tc : Int32) (x y b : Int64) : Int32 := if 16 ≤ tc then 0 else if b < 1 then 0 else if b ≤ 100 then if (f_T_isInside x) = 0 then 0 else if (f_T_isInside y) = 0 then 0 else if tc = 0 then 1 else if b = tb then if x ≤ (xs (tc - 1).toNatClampNeg) then 0 else 1 else 0 else 0
set_option maxHeartbeats 4000000 in
set_option maxRecDepth 100000 in
theorem k_T_takes (l : Launch) (dC : Nat → ClassId) (dI : Nat → Nat → Nat) (cJ cI cT : ClassId) (th tx ty : Nat) (tb : Int64) (tc : Int32) (xs : Nat → Int64) (x y b : Int64) (hc0 : 0 ≤ tc.toInt) : Met l y_T_takes w_T_takes ({ frames := 1, cells := 0, slots := 0, locals := 21 }) (va_Pc [.ref th, .long x, .long y, .long b] (wd dC dI cJ cI cT [(th, .inr (0, [.ref tx, .ref ty, .long tb, .int tc])), (tx, .inl (cJ, 16, .inr (.inl xs)))])) (k2_QcV (.int (f_T_takes xs tb tc x y b))) 0 0 (fun _ => False) := by
  refine Met.ofW (cc := c_T_takes) (maxL := 7) (ret := (Option.some Jvm.ClassFile.FieldType.boolean)) (by decide) rfl ?_
  intro p e s m args below meth c s₁ B hml hv
  obtain ⟨rfl, hP, hK⟩ := hv
  have hx := B.exec
  have hb := B.bytes
  have hr := B.returns
  have hts := atoms_spec (ws := w_T_takes) B.pre
  have hg : ∀ w ∈ WG, w.before _ s = true := fun w h => hts w (List.mem_cons_of_mem _ h)
  have hown : s.vm.findClass R_T = some m.cls := findClass_of_methodNamed B.named
  have hlocks := B.notSynchronized
  have hl := lv_entry ([.ref th, .long x, .long y, .long b]) (n := 7) (Nat.le_of_ble_eq_true rfl)
  rw [lg_entry_eq]
  generalize (lg_sl ([.ref th, .long x, .long y, .long b]) ++ List.replicate (7 - (lg_sl ([.ref th, .long x, .long y, .long b])).length) Slot.unset).toArray = ls at hl ⊢
  have hl : lv_has ls 7 [(0, .ref th), (1, .long x), (3, .long y), (5, .long b)] := hl
  have hP : va_P (dC, dI) classes [(th, .inr (0, [.ref tx, .ref ty, .long tb, .int tc])), (tx, .inl (cJ, 16, .inr (.inl xs)))] s.heap := hP
  refine lv_aload_n hx hb d_T_takes_0 rfl (lv_at hl 0 rfl) ?_
  refine va_get (D := (dC, dI)) (ci := 0) (v := .int tc) (C := R_T) (T := F_T) (N := 4) hx hb hg in_T hown hK hP 0 rfl rfl 3 (by decide) (hg _ wg_39) (fun _ h9 => h9) rfl d_T_takes_1 ?_
  refine lv_bipush (v := 16) hx hb d_T_takes_4 (by decide) ?_
  refine lv_icmp_ge (tgt := 25) hx hb d_T_takes_6 (by decide) (fun c_1 => ?_) (fun c_1 => ?_)
  · skip
    refine lv_iconst (v := 0) hx hb d_T_takes_25 (by decide) ?_
    have hz : f_T_takes xs tb tc x y b = 0 := by unfold f_T_takes; rw [if_pos c_1]
    exact W.zret hx hb hr rfl (fun t ht _ => ⟨by rw [hz], ht⟩) (fun _ h => by cases h) d_T_takes_26
  · skip
    refine lv_lload hx hb d_T_takes_9 (lv_at hl 3 rfl) ?_
    refine lv_lconst (v := 1) hx hb d_T_takes_11 (by decide) ?_
    refine W.lcmp hx hb d_T_takes_12 ?_
    refine lv_if_lt (tgt := 25) hx hb d_T_takes_13 (by decide) (fun c_2 => ?_) (fun c_2 => ?_)
    · skip
      rw [lg_cmp_lt] at c_2
      refine lv_iconst (v := 0) hx hb d_T_takes_25 (by decide) ?_
      have hz : f_T_takes xs tb tc x y b = 0 := by unfold f_T_takes; rw [if_neg c_1, if_pos c_2]
      exact W.zret hx hb hr rfl (fun t ht _ => ⟨by rw [hz], ht⟩) (fun _ h => by cases h) d_T_takes_26
    · skip
      rw [lg_cmp_lt] at c_2
      refine lv_lload hx hb d_T_takes_16 (lv_at hl 3 rfl) ?_
      refine lv_ldc2 (v := 100) hx hb hown (hg _ wg_125) d_T_takes_18 ?_
      refine W.lcmp hx hb d_T_takes_21 ?_
      refine lv_if_le (tgt := 27) hx hb d_T_takes_22 (by decide) (fun c_3 => ?_) (fun c_3 => ?_)
      · skip
        rw [lg_cmp_le] at c_3
        refine lv_lload_n hx hb d_T_takes_27 rfl (lv_at hl 1 rfl) ?_
        refine W.callV (W.runS (As := [.long x]) (rest := []) ⟨hx, hb, hml, hown, hg⟩ (k_T_isInside l x) (q_S 1 hg wg_128 wg_126 wg_127 wg_14 rfl rfl (by decide +kernel) ⟨Nat.le_of_ble_eq_true rfl, Nat.le_of_ble_eq_true rfl⟩) ⟨nw_blind, fun _ _ _ => ⟨rfl, trivial⟩⟩ rfl rfl hl.1 rfl (lv_room (Nat.le_of_ble_eq_true rfl)) d_T_takes_28 ⟨Nat.le_of_ble_eq_true rfl, Nat.le_of_ble_eq_true rfl⟩) ?_
        refine W.eq (g2 := F0 m 31 ls (.int (f_T_isInside x) :: [])) rfl ?_
        refine lv_if_eq (tgt := 41) hx hb d_T_takes_31 (by decide) (fun c_4 => ?_) (fun c_4 => ?_)
        · skip
          refine lv_iconst (v := 0) hx hb d_T_takes_41 (by decide) ?_
          have hz : f_T_takes xs tb tc x y b = 0 := by unfold f_T_takes; rw [if_neg c_1, if_neg c_2, if_pos c_3, if_pos c_4]
          exact W.zret hx hb hr rfl (fun t ht _ => ⟨by rw [hz], ht⟩) (fun _ h => by cases h) d_T_takes_42
        · skip
          refine lv_lload_n hx hb d_T_takes_34 rfl (lv_at hl 2 rfl) ?_
          refine W.callV (W.runS (As := [.long y]) (rest := []) ⟨hx, hb, hml, hown, hg⟩ (k_T_isInside l y) (q_S 1 hg wg_128 wg_126 wg_127 wg_14 rfl rfl (by decide +kernel) ⟨Nat.le_of_ble_eq_true rfl, Nat.le_of_ble_eq_true rfl⟩) ⟨nw_blind, fun _ _ _ => ⟨rfl, trivial⟩⟩ rfl rfl hl.1 rfl (lv_room (Nat.le_of_ble_eq_true rfl)) d_T_takes_35 ⟨Nat.le_of_ble_eq_true rfl, Nat.le_of_ble_eq_true rfl⟩) ?_
          refine W.eq (g2 := F0 m 38 ls (.int (f_T_isInside y) :: [])) rfl ?_
          refine lv_if_ne (tgt := 43) hx hb d_T_takes_38 (by decide) (fun c_5 => ?_) (fun c_5 => ?_)
          · skip
            refine lv_aload_n hx hb d_T_takes_43 rfl (lv_at hl 0 rfl) ?_
            refine va_get (D := (dC, dI)) (ci := 0) (v := .int tc) (C := R_T) (T := F_T) (N := 4) hx hb hg in_T hown hK hP 0 rfl rfl 3 (by decide) (hg _ wg_39) (fun _ h9 => h9) rfl d_T_takes_44 ?_
            refine lv_if_eq (tgt := 76) hx hb d_T_takes_47 (by decide) (fun c_6 => ?_) (fun c_6 => ?_)
            · skip
              refine lv_iconst (v := 1) hx hb d_T_takes_76 (by decide) ?_
              refine lv_goto (tgt := 81) hx hb d_T_takes_77 (by decide) ?_
              have hz : f_T_takes xs tb tc x y b = 1 := by unfold f_T_takes; rw [if_neg c_1, if_neg c_2, if_pos c_3, if_neg c_4, if_neg c_5, if_pos c_6]
              exact W.zret hx hb hr rfl (fun t ht _ => ⟨by rw [hz], ht⟩) (fun _ h => by cases h) d_T_takes_81
            · skip
              refine lv_lload hx hb d_T_takes_50 (lv_at hl 3 rfl) ?_
              refine lv_aload_n hx hb d_T_takes_52 rfl (lv_at hl 0 rfl) ?_
              refine va_get (D := (dC, dI)) (ci := 0) (v := .long tb) (C := R_T) (T := F_T) (N := 4) hx hb hg in_T hown hK hP 0 rfl rfl 2 (by decide) (hg _ wg_38) (fun _ h9 => h9) rfl d_T_takes_53 ?_
              refine W.lcmp hx hb d_T_takes_56 ?_
              refine lv_if_ne (tgt := 80) hx hb d_T_takes_57 (by decide) (fun c_7 => ?_) (fun c_7 => ?_)
              · skip
                rw [lg_cmp_eq] at c_7
                refine lv_iconst (v := 0) hx hb d_T_takes_80 (by decide) ?_
                have hz : f_T_takes xs tb tc x y b = 0 := by unfold f_T_takes; rw [if_neg c_1, if_neg c_2, if_pos c_3, if_neg c_4, if_neg c_5, if_neg c_6, if_neg c_7]
                exact W.zret hx hb hr rfl (fun t ht _ => ⟨by rw [hz], ht⟩) (fun _ h => by cases h) d_T_takes_81
              · skip
                rw [lg_cmp_eq] at c_7
                refine lv_lload_n hx hb d_T_takes_60 rfl (lv_at hl 1 rfl) ?_
                refine lv_aload_n hx hb d_T_takes_61 rfl (lv_at hl 0 rfl) ?_
                refine va_get (D := (dC, dI)) (ci := 0) (v := .ref tx) (C := R_T) (T := F_T) (N := 4) hx hb hg in_T hown hK hP 0 rfl rfl 0 (by decide) (hg _ wg_36) (fun _ h9 => h9) rfl d_T_takes_62 ?_
                refine lv_aload_n hx hb d_T_takes_65 rfl (lv_at hl 0 rfl) ?_
                refine va_get (D := (dC, dI)) (ci := 0) (v := .int tc) (C := R_T) (T := F_T) (N := 4) hx hb hg in_T hown hK hP 0 rfl rfl 3 (by decide) (hg _ wg_39) (fun _ h9 => h9) rfl d_T_takes_66 ?_
                refine lv_iconst (v := 1) hx hb d_T_takes_69 (by decide) ?_
                refine lv_isub hx hb d_T_takes_70 ?_
                refine lv_topi (fun i_8 ei_8 => ?_)
                refine va_lald hx hb hK hP 1 0 rfl rfl (by rw [ei_8]; exact in_pred hc0 c_1 c_6 rfl) d_T_takes_71 ?_
                refine W.lcmp hx hb d_T_takes_72 ?_
                refine lv_if_le (tgt := 80) hx hb d_T_takes_73 (by decide) (fun c_9 => ?_) (fun c_9 => ?_)
                · skip
                  rw [lg_cmp_le] at c_9
                  refine lv_iconst (v := 0) hx hb d_T_takes_80 (by decide) ?_
                  subst ei_8
                  have hz : f_T_takes xs tb tc x y b = 0 := by unfold f_T_takes; rw [if_neg c_1, if_neg c_2, if_pos c_3, if_neg c_4, if_neg c_5, if_neg c_6, if_pos c_7, if_pos c_9]
                  exact W.zret hx hb hr rfl (fun t ht _ => ⟨by rw [hz], ht⟩) (fun _ h => by cases h) d_T_takes_81
                · skip
                  rw [lg_cmp_le] at c_9
                  refine lv_iconst (v := 1) hx hb d_T_takes_76 (by decide) ?_
                  refine lv_goto (tgt := 81) hx hb d_T_takes_77 (by decide) ?_
                  subst ei_8
                  have hz : f_T_takes xs tb tc x y b = 1 := by unfold f_T_takes; rw [if_neg c_1, if_neg c_2, if_pos c_3, if_neg c_4, if_neg c_5, if_neg c_6, if_pos c_7, if_neg c_9]
                  exact W.zret hx hb hr rfl (fun t ht _ => ⟨by rw [hz], ht⟩) (fun _ h => by cases h) d_T_takes_81
          · skip
            refine lv_iconst (v := 0) hx hb d_T_takes_41 (by decide) ?_
            have hz : f_T_takes xs tb tc x y b = 0 := by unfold f_T_takes; rw [if_neg c_1, if_neg c_2, if_pos c_3, if_neg c_4, if_pos c_5]
            exact W.zret hx hb hr rfl (fun t ht _ => ⟨by rw [hz], ht⟩) (fun _ h => by cases h) d_T_takes_42
      · skip
        rw [lg_cmp_le] at c_3
        refine lv_iconst (v := 0) hx hb d_T_takes_25 (by decide) ?_
        have hz : f_T_takes xs tb tc x y b = 0 := by unfold f_T_takes; rw [if_neg c_1, if_neg c_2, if_neg c_3]
        exact W.zret hx hb hr rfl (fun t ht _ => ⟨by rw [hz], ht⟩) (fun _ h => by cases h) d_T_takes_26
def f_T_append (xs ys : Nat → Int64) (tb : Int64) (tc : Int32) (x y b : Int64) : (Nat → Int64) × (Nat → Int64) × Int64 × Int32 := if tc < 16 then (vp_updL xs tc.toNatClampNeg x, vp_updL ys tc.toNatClampNeg y, b, (tc + 1)) else (xs, ys, tb, tc)
set_option maxHeartbeats 4000000 in
set_option maxRecDepth 100000 in
theorem k_T_append (l : Launch) (dC : Nat → ClassId) (dI : Nat → Nat → Nat) (cJ cI cT : ClassId) (th tx ty : Nat) (tb : Int64) (tc : Int32) (xs ys : Nat → Int64) (x y b : Int64) (sz : Nat) (hc0 : 0 ≤ tc.toInt) : Met l y_T_append w_T_append ({ frames := 0, cells := 0, slots := 0, locals := 0 }) (va_Pc [.ref th, .long x, .long y, .long b] (wx dC dI cJ cI cT sz [(th, .inr (0, [.ref tx, .ref ty, .long tb, .int tc])), (tx, .inl (cJ, 16, .inr (.inl xs))), (ty, .inl (cJ, 16, .inr (.inl ys)))])) (va_Qv (fun (u : (Nat → Int64) × (Nat → Int64) × Int64 × Int32) => u = f_T_append xs ys tb tc x y b) (fun u => wb dC dI cJ cI cT (va_A [(th, .inr (0, [.ref tx, .ref ty, .long tb, .int tc])), (tx, .inl (cJ, 16, .inr (.inl xs))), (ty, .inl (cJ, 16, .inr (.inl ys)))] sz) [(th, .inr (0, [.ref tx, .ref ty, .long u.2.2.1, .int u.2.2.2])), (tx, .inl (cJ, 16, .inr (.inl u.1))), (ty, .inl (cJ, 16, .inr (.inl u.2.1)))]) (va_A [(th, .inr (0, [.ref tx, .ref ty, .long tb, .int tc])), (tx, .inl (cJ, 16, .inr (.inl xs))), (ty, .inl (cJ, 16, .inr (.inl ys)))] sz)) 0 0 (va_A [(th, .inr (0, [.ref tx, .ref ty, .long tb, .int tc])), (tx, .inl (cJ, 16, .inr (.inl xs))), (ty, .inl (cJ, 16, .inr (.inl ys)))] sz) := by
  refine Met.ofW (cc := c_T_append) (maxL := 7) (ret := (Option.none : Option Jvm.ClassFile.FieldType)) (by decide) rfl ?_
  intro p e s m args below meth c s₁ B hml hv
  obtain ⟨rfl, hsz, hP, hK, hD0⟩ := hv
  have hx := B.exec
  have hb := B.bytes
  have hr := B.returns
  have hts := atoms_spec (ws := w_T_append) B.pre
  have hg : ∀ w ∈ WG, w.before _ s = true := fun w h => hts w (List.mem_cons_of_mem _ h)
  have hown : s.vm.findClass R_T = some m.cls := findClass_of_methodNamed B.named
  have hlocks := B.notSynchronized
  have hl := lv_entry ([.ref th, .long x, .long y, .long b]) (n := 7) (Nat.le_of_ble_eq_true rfl)
  rw [lg_entry_eq]
  generalize (lg_sl ([.ref th, .long x, .long y, .long b]) ++ List.replicate (7 - (lg_sl ([.ref th, .long x, .long y, .long b])).length) Slot.unset).toArray = ls at hl ⊢
  have hl : lv_has ls 7 [(0, .ref th), (1, .long x), (3, .long y), (5, .long b)] := hl
  subst hsz
  have hD := hD0.self (sz := s.heap.size)
  generalize hAe : va_A [(th, .inr (0, [.ref tx, .ref ty, .long tb, .int tc])), (tx, .inl (cJ, 16, .inr (.inl xs))), (ty, .inl (cJ, 16, .inr (.inl ys)))] s.heap.size = A at hD ⊢
  have hA : ∀ q : Nat, s.heap.size ≤ q → A q := fun q h => by rw [← hAe]; exact Or.inr h
  have hS : va_S A s.heap s.heap [] := va_S.rf
  have hP : va_P (dC, dI) classes [(th, .inr (0, [.ref tx, .ref ty, .long tb, .int tc])), (tx, .inl (cJ, 16, .inr (.inl xs))), (ty, .inl (cJ, 16, .inr (.inl ys)))] s.heap := hP
  have hD : va_D A [(th, .inr (0, [.ref tx, .ref ty, .long tb, .int tc])), (tx, .inl (cJ, 16, .inr (.inl xs))), (ty, .inl (cJ, 16, .inr (.inl ys)))] := hD
  skip
  refine lv_aload_n hx hb d_T_append_0 rfl (lv_at hl 0 rfl) ?_
  refine va_get (D := (dC, dI)) (ci := 0) (v := .int tc) (C := R_T) (T := F_T) (N := 4) hx hb hg in_T hown hK hP 0 rfl rfl 3 (by decide) (hg _ wg_39) (fun _ h9 => h9) rfl d_T_append_1 ?_
  refine lv_bipush (v := 16) hx hb d_T_append_4 (by decide) ?_
  refine lv_icmp_lt (tgt := 10) hx hb d_T_append_6 (by decide) (fun c_1 => ?_) (fun c_1 => ?_)
  · skip
    refine lv_aload_n hx hb d_T_append_10 rfl (lv_at hl 0 rfl) ?_
    refine va_get (D := (dC, dI)) (ci := 0) (v := .ref tx) (C := R_T) (T := F_T) (N := 4) hx hb hg in_T hown hK hP 0 rfl rfl 0 (by decide) (hg _ wg_36) (fun _ h9 => h9) rfl d_T_append_11 ?_
    refine lv_aload_n hx hb d_T_append_14 rfl (lv_at hl 0 rfl) ?_
    refine va_get (D := (dC, dI)) (ci := 0) (v := .int tc) (C := R_T) (T := F_T) (N := 4) hx hb hg in_T hown hK hP 0 rfl rfl 3 (by decide) (hg _ wg_39) (fun _ h9 => h9) rfl d_T_append_15 ?_
    refine lv_lload_n hx hb d_T_append_18 rfl (lv_at hl 1 rfl) ?_
    refine va_last hx hb hK hP hD hS 1 0 rfl rfl (in_cnt hc0 c_1 (by decide)) d_T_append_19 (fun H locs hP hD hS => ?_)
    have hP : va_P (dC, dI) classes [(th, .inr (0, [.ref tx, .ref ty, .long tb, .int tc])), (tx, .inl (cJ, 16, .inr (.inl (vp_updL xs tc.toNatClampNeg x)))), (ty, .inl (cJ, 16, .inr (.inl ys)))] H := hP
    have hD : va_D A [(th, .inr (0, [.ref tx, .ref ty, .long tb, .int tc])), (tx, .inl (cJ, 16, .inr (.inl (vp_updL xs tc.toNatClampNeg x)))), (ty, .inl (cJ, 16, .inr (.inl ys)))] := hD
    refine lv_aload_n hx hb d_T_append_20 rfl (lv_at hl 0 rfl) ?_
    refine va_get (D := (dC, dI)) (ci := 0) (v := .ref ty) (C := R_T) (T := F_T) (N := 4) hx hb hg in_T hown hK hP 0 rfl rfl 1 (by decide) (hg _ wg_37) (fun _ h9 => h9) rfl d_T_append_21 ?_
    refine lv_aload_n hx hb d_T_append_24 rfl (lv_at hl 0 rfl) ?_
    refine va_get (D := (dC, dI)) (ci := 0) (v := .int tc) (C := R_T) (T := F_T) (N := 4) hx hb hg in_T hown hK hP 0 rfl rfl 3 (by decide) (hg _ wg_39) (fun _ h9 => h9) rfl d_T_append_25 ?_
    refine lv_lload_n hx hb d_T_append_28 rfl (lv_at hl 2 rfl) ?_
    refine va_last hx hb hK hP hD hS 2 0 rfl rfl (in_cnt hc0 c_1 (by decide)) d_T_append_29 (fun H locs hP hD hS => ?_)
    have hP : va_P (dC, dI) classes [(th, .inr (0, [.ref tx, .ref ty, .long tb, .int tc])), (tx, .inl (cJ, 16, .inr (.inl (vp_updL xs tc.toNatClampNeg x)))), (ty, .inl (cJ, 16, .inr (.inl (vp_updL ys tc.toNatClampNeg y))))] H := hP
    have hD : va_D A [(th, .inr (0, [.ref tx, .ref ty, .long tb, .int tc])), (tx, .inl (cJ, 16, .inr (.inl (vp_updL xs tc.toNatClampNeg x)))), (ty, .inl (cJ, 16, .inr (.inl (vp_updL ys tc.toNatClampNeg y))))] := hD
    refine lv_aload_n hx hb d_T_append_30 rfl (lv_at hl 0 rfl) ?_
    refine lv_lload hx hb d_T_append_31 (lv_at hl 3 rfl) ?_
    refine va_put (D := (dC, dI)) (ci := 0) (v := .long b) (ty := .long) (C := R_T) (T := F_T) (N := 4) hx hb hg in_T tt_T tt_T_ok nn_T hown hK hP hD hS 0 rfl rfl 2 (by decide) (hg _ wg_38) (fun _ h9 => h9) rfl (by decide +kernel) rfl rfl (Nat.le_of_ble_eq_true rfl) d_T_append_33 (fun H locs hP hD hS => ?_)
    have hP : va_P (dC, dI) classes [(th, .inr (0, [.ref tx, .ref ty, .long b, .int tc])), (tx, .inl (cJ, 16, .inr (.inl (vp_updL xs tc.toNatClampNeg x)))), (ty, .inl (cJ, 16, .inr (.inl (vp_updL ys tc.toNatClampNeg y))))] H := hP
    have hD : va_D A [(th, .inr (0, [.ref tx, .ref ty, .long b, .int tc])), (tx, .inl (cJ, 16, .inr (.inl (vp_updL xs tc.toNatClampNeg x)))), (ty, .inl (cJ, 16, .inr (.inl (vp_updL ys tc.toNatClampNeg y))))] := hD
    refine lv_aload_n hx hb d_T_append_36 rfl (lv_at hl 0 rfl) ?_
    refine lv_dup hx hb d_T_append_37 rfl ?_
    refine va_get (D := (dC, dI)) (ci := 0) (v := .int tc) (C := R_T) (T := F_T) (N := 4) hx hb hg in_T hown hK hP 0 rfl rfl 3 (by decide) (hg _ wg_39) (fun _ h9 => h9) rfl d_T_append_38 ?_
    refine lv_iconst (v := 1) hx hb d_T_append_41 (by decide) ?_
    refine lv_iadd hx hb d_T_append_42 ?_
    refine lv_topi (fun v_2 ev_2 => ?_)
    refine va_put (D := (dC, dI)) (ci := 0) (v := .int v_2) (ty := .int) (C := R_T) (T := F_T) (N := 4) hx hb hg in_T tt_T tt_T_ok nn_T hown hK hP hD hS 0 rfl rfl 3 (by decide) (hg _ wg_39) (fun _ h9 => h9) rfl (by decide +kernel) rfl rfl (Nat.le_of_ble_eq_true rfl) d_T_append_43 (fun H locs hP hD hS => ?_)
    have hP : va_P (dC, dI) classes [(th, .inr (0, [.ref tx, .ref ty, .long b, .int v_2])), (tx, .inl (cJ, 16, .inr (.inl (vp_updL xs tc.toNatClampNeg x)))), (ty, .inl (cJ, 16, .inr (.inl (vp_updL ys tc.toNatClampNeg y))))] H := hP
    have hD : va_D A [(th, .inr (0, [.ref tx, .ref ty, .long b, .int v_2])), (tx, .inl (cJ, 16, .inr (.inl (vp_updL xs tc.toNatClampNeg x)))), (ty, .inl (cJ, 16, .inr (.inl (vp_updL ys tc.toNatClampNeg y))))] := hD
    subst ev_2
    have hP9 := hP.sub (ws' := [(th, .inr (0, [.ref tx, .ref ty, .long b, .int (tc + 1)])), (tx, .inl (cJ, 16, .inr (.inl (vp_updL xs tc.toNatClampNeg x)))), (ty, .inl (cJ, 16, .inr (.inl (vp_updL ys tc.toNatClampNeg y))))]) [0, 1, 2] rfl
    have hD9 := hD.sub (ws' := [(th, .inr (0, [.ref tx, .ref ty, .long b, .int (tc + 1)])), (tx, .inl (cJ, 16, .inr (.inl (vp_updL xs tc.toNatClampNeg x)))), (ty, .inl (cJ, 16, .inr (.inl (vp_updL ys tc.toNatClampNeg y))))]) [0, 1, 2] (by decide) rfl
    have hz : (vp_updL xs tc.toNatClampNeg x, vp_updL ys tc.toNatClampNeg y, b, (tc + 1)) = f_T_append xs ys tb tc x y b := by unfold f_T_append; rw [if_pos c_1]
    exact W.vret hx hb hr (fun t ht hW => ⟨⟨(vp_updL xs tc.toNatClampNeg x, vp_updL ys tc.toNatClampNeg y, b, (tc + 1)), rfl, hz, wb_of ht hW hP9 hK hD9⟩, hS.F ht⟩) hS.2.2 d_T_append_46
  · skip
    have hP9 := hP.sub (ws' := [(th, .inr (0, [.ref tx, .ref ty, .long tb, .int tc])), (tx, .inl (cJ, 16, .inr (.inl xs))), (ty, .inl (cJ, 16, .inr (.inl ys)))]) [0, 1, 2] rfl
    have hD9 := hD.sub (ws' := [(th, .inr (0, [.ref tx, .ref ty, .long tb, .int tc])), (tx, .inl (cJ, 16, .inr (.inl xs))), (ty, .inl (cJ, 16, .inr (.inl ys)))]) [0, 1, 2] (by decide) rfl
    have hz : (xs, ys, tb, tc) = f_T_append xs ys tb tc x y b := by unfold f_T_append; rw [if_neg c_1]
    exact W.vret hx hb hr (fun t ht hW => ⟨⟨(xs, ys, tb, tc), rfl, hz, wb_of ht hW hP9 hK hD9⟩, hS.F ht⟩) hS.2.2 d_T_append_9
/-- the first place from j on, among n, that is not before -/
def fn_L (xs : Nat → Int64) (d so : Int64) : Nat → Nat → Nat
  | 0, j => j
  | n + 1, j => if so ≤ xs j * d then j else fn_L xs d so n (j + 1)
set_option maxHeartbeats 4000000 in
set_option maxRecDepth 100000 in
theorem lp_T_firstNotBefore {p : Program} {l : Launch} {e : Env} {R : Room} {s : State} {m : MethodId} {args : Array Value} {below : List Frame} {meth : Method} {c : Code} {H : Heap} {locs : List Loc} {cells slots : Nat} {Q : State → Prop} {dC : Nat → ClassId} {dI : Nat → Nat → Nat} {cJ cI cT : ClassId} {th tx ty : Nat} {tb : Int64} {xs : Nat → Int64} {d so : Int64} (hx : p.tables.exec = Jvm.exec) (hb : c.code = c_T_firstNotBefore) (hg : ∀ w ∈ WG, w.before args s = true) (hown : s.vm.findClass R_T = some m.cls) (hK : va_K (dC, dI) classes (TY cJ cI cT) s) : ∀ (q j : Nat) (ls : Array Slot), va_P (dC, dI) classes [(th, .inr (0, [.ref tx, .ref ty, .long tb, .int (nI (j + q))])), (tx, .inl (cJ, 16, .inr (.inl xs)))] H → j + q ≤ 16 → lv_has ls 8 [(0, .ref th), (3, .long d), (5, .long so), (7, .int (nI j))] → (∀ ls' : Array Slot, lv_has ls' 8 [(7, .int (nI (fn_L xs d so q j)))] → W p l e R s m args below meth c H locs cells slots Q (F0 m 41 ls' [])) → W p l e R s m args below meth c H locs cells slots Q (F0 m 11 ls []) := by
  intro q
  induction q with
  | zero =>
    intro j ls hP hj hl kk
    refine lv_iload hx hb d_T_firstNotBefore_11 (lv_at hl 3 rfl) ?_
    refine lv_aload_n hx hb d_T_firstNotBefore_13 rfl (lv_at hl 0 rfl) ?_
    refine va_get (D := (dC, dI)) (ci := 0) (v := .int (nI (j + 0))) (C := R_T) (T := F_T) (N := 4) hx hb hg in_T hown hK hP 0 rfl rfl 3 (by decide) (hg _ wg_39) (fun _ h9 => h9) rfl d_T_firstNotBefore_14 ?_
    refine lv_icmp_ge (tgt := 41) hx hb d_T_firstNotBefore_17 (by decide) (fun c_1 => ?_) (fun c_1 => ?_)
    · skip
      exact kk ls (lv_sub hl [3] rfl)
    · skip
      exact absurd (nI_le (Nat.le_refl j) (by omega)) c_1
  | succ q ih =>
    intro j ls hP hj hl kk
    refine lv_iload hx hb d_T_firstNotBefore_11 (lv_at hl 3 rfl) ?_
    refine lv_aload_n hx hb d_T_firstNotBefore_13 rfl (lv_at hl 0 rfl) ?_
    refine va_get (D := (dC, dI)) (ci := 0) (v := .int (nI (j + (q + 1)))) (C := R_T) (T := F_T) (N := 4) hx hb hg in_T hown hK hP 0 rfl rfl 3 (by decide) (hg _ wg_39) (fun _ h9 => h9) rfl d_T_firstNotBefore_14 ?_
    refine lv_icmp_ge (tgt := 41) hx hb d_T_firstNotBefore_17 (by decide) (fun c_1 => ?_) (fun c_1 => ?_)
    · skip
      exact absurd c_1 (nI_ge (by omega) (by omega))
    · skip
      refine lv_aload_n hx hb d_T_firstNotBefore_20 rfl (lv_at hl 0 rfl) ?_
      refine va_get (D := (dC, dI)) (ci := 0) (v := .ref tx) (C := R_T) (T := F_T) (N := 4) hx hb hg in_T hown hK hP 0 rfl rfl 0 (by decide) (hg _ wg_36) (fun _ h9 => h9) rfl d_T_firstNotBefore_21 ?_
      refine lv_iload hx hb d_T_firstNotBefore_24 (lv_at hl 3 rfl) ?_
      refine va_lald hx hb hK hP 1 0 rfl rfl (vp_in_nI (by omega) (by decide)) d_T_firstNotBefore_26 ?_
      refine lv_lload_n hx hb d_T_firstNotBefore_27 rfl (lv_at hl 1 rfl) ?_
      refine lv_lmul hx hb d_T_firstNotBefore_28 ?_
      refine lv_lload hx hb d_T_firstNotBefore_29 (lv_at hl 2 rfl) ?_
      refine W.lcmp hx hb d_T_firstNotBefore_31 ?_
      refine lv_if_ge (tgt := 41) hx hb d_T_firstNotBefore_32 (by decide) (fun c_2 => ?_) (fun c_2 => ?_)
      · skip
        rw [lg_cmp_ge] at c_2
        have e2 : (nI j).toNatClampNeg = j := nI_clamp (by omega)
        rw [e2] at c_2
        have hz : fn_L xs d so (q + 1) j = j := if_pos c_2
        exact kk ls (by rw [hz]; exact lv_sub hl [3] rfl)
      · skip
        rw [lg_cmp_ge] at c_2
        obtain ⟨v_3, ev_3⟩ : ∃ y : Int32, y = nI j + 1 := ⟨_, rfl⟩
        refine lv_iinc (v := v_3) (lv' := [(7, .int v_3), (0, .ref th), (3, .long d), (5, .long so)]) hx hb d_T_firstNotBefore_35 hl (k := 3) rfl (by rw [ev_3]; rfl) (by decide) rfl (fun ls hl => ?_)
        refine lv_goto (tgt := 11) hx hb d_T_firstNotBefore_38 (by decide) ?_
        subst ev_3
        rw [nI_1] at hl
        have e2 : (nI j).toNatClampNeg = j := nI_clamp (by omega)
        rw [e2] at c_2
        have e1 : j + (q + 1) = (j + 1) + q := by omega
        rw [e1] at hP
        exact ih (j + 1) ls hP (by omega) (lv_sub hl [1, 2, 3, 0] rfl) (fun ls' hl' => kk ls' (by rw [show fn_L xs d so (q + 1) j = fn_L xs d so q (j + 1) from if_neg c_2]; exact hl'))
def f_T_firstNotBefore (xs : Nat → Int64) (tb : Int64) (tc : Int32) (x d : Int64) : Int32 := nI (fn_L xs d (x * tb) tc.toNatClampNeg 0)
set_option maxHeartbeats 4000000 in
set_option maxRecDepth 100000 in
theorem k_T_firstNotBefore (l : Launch) (dC : Nat → ClassId) (dI : Nat → Nat → Nat) (cJ cI cT : ClassId) (th tx ty : Nat) (tb : Int64) (tc : Int32) (xs : Nat → Int64) (x d : Int64) (hc0 : 0 ≤ tc.toInt) (hc : tc.toInt ≤ (16 : Nat)) : Met l y_T_firstNotBefore w_T_firstNotBefore ({ frames := 0, cells := 0, slots := 0, locals := 0 }) (va_Pc [.ref th, .long x, .long d] (wd dC dI cJ cI cT [(th, .inr (0, [.ref tx, .ref ty, .long tb, .int tc])), (tx, .inl (cJ, 16, .inr (.inl xs)))])) (k2_QcV (.int (f_T_firstNotBefore xs tb tc x d))) 0 0 (fun _ => False) := by
  refine Met.ofW (cc := c_T_firstNotBefore) (maxL := 8) (ret := (Option.some Jvm.ClassFile.FieldType.int)) (by decide) rfl ?_
  intro p e s m args below meth c s₁ B hml hv
  obtain ⟨rfl, hP, hK⟩ := hv
  have hx := B.exec
  have hb := B.bytes
  have hr := B.returns
  have hts := atoms_spec (ws := w_T_firstNotBefore) B.pre
  have hg : ∀ w ∈ WG, w.before _ s = true := fun w h => hts w (List.mem_cons_of_mem _ h)
  have hown : s.vm.findClass R_T = some m.cls := findClass_of_methodNamed B.named
  have hlocks := B.notSynchronized
  have hl := lv_entry ([.ref th, .long x, .long d]) (n := 8) (Nat.le_of_ble_eq_true rfl)
  rw [lg_entry_eq]
  generalize (lg_sl ([.ref th, .long x, .long d]) ++ List.replicate (8 - (lg_sl ([.ref th, .long x, .long d])).length) Slot.unset).toArray = ls at hl ⊢
  have hl : lv_has ls 8 [(0, .ref th), (1, .long x), (3, .long d)] := hl
  have hP : va_P (dC, dI) classes [(th, .inr (0, [.ref tx, .ref ty, .long tb, .int tc])), (tx, .inl (cJ, 16, .inr (.inl xs)))] s.heap := hP
  refine lv_lload_n hx hb d_T_firstNotBefore_0 rfl (lv_at hl 1 rfl) ?_
  refine lv_aload_n hx hb d_T_firstNotBefore_1 rfl (lv_at hl 0 rfl) ?_
  refine va_get (D := (dC, dI)) (ci := 0) (v := .long tb) (C := R_T) (T := F_T) (N := 4) hx hb hg in_T hown hK hP 0 rfl rfl 2 (by decide) (hg _ wg_38) (fun _ h9 => h9) rfl d_T_firstNotBefore_2 ?_
  refine lv_lmul hx hb d_T_firstNotBefore_5 ?_
  refine lv_topl (fun v_1 ev_1 => ?_)
  refine lv_lstore (lv' := [(5, .long v_1), (0, .ref th), (1, .long x), (3, .long d)]) hx hb d_T_firstNotBefore_6 hl (by decide) rfl (fun ls hl => ?_)
  refine lv_iconst (v := 0) hx hb d_T_firstNotBefore_8 (by decide) ?_
  refine lv_istore (lv' := [(7, .int 0), (5, .long v_1), (0, .ref th), (1, .long x), (3, .long d)]) hx hb d_T_firstNotBefore_9 hl (by decide) rfl (fun ls hl => ?_)
  subst ev_1
  obtain ⟨q, hq9, eq9⟩ := nI_of (x := tc) (fun hh => by rw [Int32.lt_iff_toInt_lt] at hh; have e0 : (0 : Int32).toInt = 0 := rfl; omega)
  have eq2 : tc.toNatClampNeg = q := by rw [eq9]; exact nI_clamp hq9
  have eq3 : tc.toInt = q := by rw [eq9]; exact nI_toInt hq9
  have eq4 : tc = nI (0 + q) := by rw [Nat.zero_add]; exact eq9
  refine lp_T_firstNotBefore (tb := tb) (xs := xs) hx hb hg hown hK q 0 ls (by rw [← eq4]; exact hP) (by omega) (lv_sub hl [2, 4, 1, 0] rfl) (fun ls hl => ?_)
  rw [← eq2] at hl
  refine lv_iload hx hb d_T_firstNotBefore_41 (lv_at hl 0 rfl) ?_
  have hz : f_T_firstNotBefore xs tb tc x d = nI (fn_L xs d (x * tb) tc.toNatClampNeg 0) := by unfold f_T_firstNotBefore; rfl
  exact W.iret hx hb hr (fun t ht _ => ⟨by rw [hz], ht⟩) (fun _ h => by cases h) d_T_firstNotBefore_43
def f_X_tableAt (tf : Nat → Option Nat) (a : Int32) : Option Nat := if a < 0 then none else if 4 ≤ a then none else (tf a.toNatClampNeg)
set_option maxHeartbeats 4000000 in
set_option maxRecDepth 100000 in
theorem k_X_tableAt (l : Launch) (dC : Nat → ClassId) (dI : Nat → Nat → Nat) (cJ cI cT : ClassId) (h a1 a2 a3 a4 a5 : Nat) (n k : Int32) (tf : Nat → Option Nat) (a : Int32) : Met l y_X_tableAt w_X_tableAt ({ frames := 0, cells := 0, slots := 0, locals := 0 }) (va_Pc [.ref h, .int a] (wd dC dI cJ cI cT [(h, .inr (1, [.ref a1, .ref a2, .ref a3, .int n, .ref a4, .int k, .ref a5])), (a5, .inl (cT, 4, .inr (.inr (.inr (.inr tf)))))])) (k2_QcV (va_rf (f_X_tableAt tf a))) 0 0 (fun _ => False) := by
  refine Met.ofW (cc := c_X_tableAt) (maxL := 2) (ret := (Option.some (Jvm.ClassFile.FieldType.object "LitreFractions$Table"))) (by decide) rfl ?_
  intro p e s m args below meth c s₁ B hml hv
  obtain ⟨rfl, hP, hK⟩ := hv
  have hx := B.exec
  have hb := B.bytes
  have hr := B.returns
  have hts := atoms_spec (ws := w_X_tableAt) B.pre
  have hg : ∀ w ∈ WG, w.before _ s = true := fun w h => hts w (List.mem_cons_of_mem _ h)
  have hown : s.vm.findClass R_X = some m.cls := findClass_of_methodNamed B.named
  have hlocks := B.notSynchronized
  have hl := lv_entry ([.ref h, .int a]) (n := 2) (Nat.le_of_ble_eq_true rfl)
  rw [lg_entry_eq]
  generalize (lg_sl ([.ref h, .int a]) ++ List.replicate (2 - (lg_sl ([.ref h, .int a])).length) Slot.unset).toArray = ls at hl ⊢
  have hl : lv_has ls 2 [(0, .ref h), (1, .int a)] := hl
  have hP : va_P (dC, dI) classes [(h, .inr (1, [.ref a1, .ref a2, .ref a3, .int n, .ref a4, .int k, .ref a5])), (a5, .inl (cT, 4, .inr (.inr (.inr (.inr tf)))))] s.heap := hP
  refine lv_iload_n hx hb d_X_tableAt_0 rfl (lv_at hl 1 rfl) ?_
  refine lv_if_lt (tgt := 18) hx hb d_X_tableAt_1 (by decide) (fun c_1 => ?_) (fun c_1 => ?_)
  · skip
    refine lv_null hx hb d_X_tableAt_18 ?_
    have hz : f_X_tableAt tf a = none := by unfold f_X_tableAt; rw [if_pos c_1]
    exact W.aret (v := .null) hx hb hr (Or.inl ⟨_, rfl⟩) (Or.inl rfl) (fun t ht _ => ⟨by rw [hz] <;> rfl, ht⟩) (fun _ h => by cases h) d_X_tableAt_19
  · skip
    refine lv_iload_n hx hb d_X_tableAt_4 rfl (lv_at hl 1 rfl) ?_
    refine lv_iconst (v := 4) hx hb d_X_tableAt_5 (by decide) ?_
    refine lv_icmp_ge (tgt := 18) hx hb d_X_tableAt_6 (by decide) (fun c_2 => ?_) (fun c_2 => ?_)
    · skip
      refine lv_null hx hb d_X_tableAt_18 ?_
      have hz : f_X_tableAt tf a = none := by unfold f_X_tableAt; rw [if_neg c_1, if_pos c_2]
      exact W.aret (v := .null) hx hb hr (Or.inl ⟨_, rfl⟩) (Or.inl rfl) (fun t ht _ => ⟨by rw [hz] <;> rfl, ht⟩) (fun _ h => by cases h) d_X_tableAt_19
    · skip
      refine lv_aload_n hx hb d_X_tableAt_9 rfl (lv_at hl 0 rfl) ?_
      refine va_get (D := (dC, dI)) (ci := 1) (v := .ref a5) (C := R_X) (T := F_X) (N := 7) hx hb hg in_X hown hK hP 0 rfl rfl 6 (by decide) (hg _ wg_52) (fun _ h9 => h9) rfl d_X_tableAt_10 ?_
      refine lv_iload_n hx hb d_X_tableAt_13 rfl (lv_at hl 1 rfl) ?_
      refine va_aldq hx hb hK hP 1 2 rfl rfl (in_nle c_1 c_2 (by decide)) d_X_tableAt_14 ?_
      refine lv_goto (tgt := 19) hx hb d_X_tableAt_15 (by decide) ?_
      have hz : f_X_tableAt tf a = tf a.toNatClampNeg := by unfold f_X_tableAt; rw [if_neg c_1, if_neg c_2]
      exact W.aret (v := va_rf (tf a.toNatClampNeg)) hx hb hr (Or.inl ⟨_, rfl⟩) (va_rf_or _) (fun t ht _ => ⟨by rw [hz] <;> rfl, ht⟩) (fun _ h => by cases h) d_X_tableAt_19
end
section
def f_X_row (xs ys : Nat → Int64) (tb : Int64) (tc : Int32) (x y b : Int64) : Int32 × (Nat → Int64) × (Nat → Int64) × Int64 × Int32 := if (f_T_takes xs tb tc x y b) = 0 then (0, (xs, ys, tb, tc)) else (1, f_T_append xs ys tb tc x y b)
set_option maxHeartbeats 4000000 in
set_option maxRecDepth 100000 in
theorem k_X_row (l : Launch) (dC : Nat → ClassId) (dI : Nat → Nat → Nat) (cJ cI cT : ClassId) (h a1 a2 a3 a4 a5 : Nat) (n k : Int32) (tf : Nat → Option Nat) (th tx ty : Nat) (tb : Int64) (tc : Int32) (xs ys : Nat → Int64) (tb_ : Int32) (x y b : Int64) (sz : Nat) (hf : f_X_tableAt tf tb_ = some th) (hc0 : 0 ≤ tc.toInt) : Met l y_X_row w_X_row ({ frames := 2, cells := 0, slots := 0, locals := 47 }) (va_Pc [.ref h, .int tb_, .long x, .long y, .long b] (fun U => wx dC dI cJ cI cT sz [(h, .inr (1, [.ref a1, .ref a2, .ref a3, .int n, .ref a4, .int k, .ref a5])), (a5, .inl (cT, 4, .inr (.inr (.inr (.inr tf))))), (th, .inr (0, [.ref tx, .ref ty, .long tb, .int tc])), (tx, .inl (cJ, 16, .inr (.inl xs))), (ty, .inl (cJ, 16, .inr (.inl ys)))] U ∧ nwd U)) (va_Qi (fun (r9 : Int32) (u9 : (Nat → Int64) × (Nat → Int64) × Int64 × Int32) => (r9, u9) = f_X_row xs ys tb tc x y b) (fun u => wb dC dI cJ cI cT (va_A [(h, .inr (1, [.ref a1, .ref a2, .ref a3, .int n, .ref a4, .int k, .ref a5])), (a5, .inl (cT, 4, .inr (.inr (.inr (.inr tf))))), (th, .inr (0, [.ref tx, .ref ty, .long tb, .int tc])), (tx, .inl (cJ, 16, .inr (.inl xs))), (ty, .inl (cJ, 16, .inr (.inl ys)))] sz) [(h, .inr (1, [.ref a1, .ref a2, .ref a3, .int n, .ref a4, .int k, .ref a5])), (a5, .inl (cT, 4, .inr (.inr (.inr (.inr tf))))), (th, .inr (0, [.ref tx, .ref ty, .long u.2.2.1, .int u.2.2.2])), (tx, .inl (cJ, 16, .inr (.inl u.1))), (ty, .inl (cJ, 16, .inr (.inl u.2.1)))]) (va_A [(h, .inr (1, [.ref a1, .ref a2, .ref a3, .int n, .ref a4, .int k, .ref a5])), (a5, .inl (cT, 4, .inr (.inr (.inr (.inr tf))))), (th, .inr (0, [.ref tx, .ref ty, .long tb, .int tc])), (tx, .inl (cJ, 16, .inr (.inl xs))), (ty, .inl (cJ, 16, .inr (.inl ys)))] sz)) 0 0 (va_A [(h, .inr (1, [.ref a1, .ref a2, .ref a3, .int n, .ref a4, .int k, .ref a5])), (a5, .inl (cT, 4, .inr (.inr (.inr (.inr tf))))), (th, .inr (0, [.ref tx, .ref ty, .long tb, .int tc])), (tx, .inl (cJ, 16, .inr (.inl xs))), (ty, .inl (cJ, 16, .inr (.inl ys)))] sz) := by
  refine Met.ofW (cc := c_X_row) (maxL := 9) (ret := (Option.some Jvm.ClassFile.FieldType.boolean)) (by decide) rfl ?_
  intro p e s m args below meth c s₁ B hml hv
  obtain ⟨rfl, ⟨hsz, hP, hK, hD0⟩, hN⟩ := hv
  have hx := B.exec
  have hb := B.bytes
  have hr := B.returns
  have hts := atoms_spec (ws := w_X_row) B.pre
  have hg : ∀ w ∈ WG, w.before _ s = true := fun w h => hts w (List.mem_cons_of_mem _ h)
  have hown : s.vm.findClass R_X = some m.cls := findClass_of_methodNamed B.named
  have hlocks := B.notSynchronized
  have hl := lv_entry ([.ref h, .int tb_, .long x, .long y, .long b]) (n := 9) (Nat.le_of_ble_eq_true rfl)
  rw [lg_entry_eq]
  generalize (lg_sl ([.ref h, .int tb_, .long x, .long y, .long b]) ++ List.replicate (9 - (lg_sl ([.ref h, .int tb_, .long x, .long y, .long b])).length) Slot.unset).toArray = ls at hl ⊢
  have hl : lv_has ls 9 [(0, .ref h), (1, .int tb_), (2, .long x), (4, .long y), (6, .long b)] := hl
  subst hsz
  have hD := hD0.self (sz := s.heap.size)
  generalize hAe : va_A [(h, .inr (1, [.ref a1, .ref a2, .ref a3, .int n, .ref a4, .int k, .ref a5])), (a5, .inl (cT, 4, .inr (.inr (.inr (.inr tf))))), (th, .inr (0, [.ref tx, .ref ty, .long tb, .int tc])), (tx, .inl (cJ, 16, .inr (.inl xs))), (ty, .inl (cJ, 16, .inr (.inl ys)))] s.heap.size = A at hD ⊢
  have hA : ∀ q : Nat, s.heap.size ≤ q → A q := fun q h => by rw [← hAe]; exact Or.inr h
  have hS : va_S A s.heap s.heap [] := va_S.rf
  have hP : va_P (dC, dI) classes [(h, .inr (1, [.ref a1, .ref a2, .ref a3, .int n, .ref a4, .int k, .ref a5])), (a5, .inl (cT, 4, .inr (.inr (.inr (.inr tf))))), (th, .inr (0, [.ref tx, .ref ty, .long tb, .int tc])), (tx, .inl (cJ, 16, .inr (.inl xs))), (ty, .inl (cJ, 16, .inr (.inl ys)))] s.heap := hP
  have hD : va_D A [(h, .inr (1, [.ref a1, .ref a2, .ref a3, .int n, .ref a4, .int k, .ref a5])), (a5, .inl (cT, 4, .inr (.inr (.inr (.inr tf))))), (th, .inr (0, [.ref tx, .ref ty, .long tb, .int tc])), (tx, .inl (cJ, 16, .inr (.inl xs))), (ty, .inl (cJ, 16, .inr (.inl ys)))] := hD
  skip
  refine lv_aload_n hx hb d_X_row_0 rfl (lv_at hl 0 rfl) ?_
  refine lv_iload_n hx hb d_X_row_1 rfl (lv_at hl 1 rfl) ?_
  have hPc := hP.sub (ws' := [(h, .inr (1, [.ref a1, .ref a2, .ref a3, .int n, .ref a4, .int k, .ref a5])), (a5, .inl (cT, 4, .inr (.inr (.inr (.inr tf)))))]) [0, 1] rfl
  refine W.callV (W.runV (As := [.int tb_]) (rest := []) ⟨hx, hb, hml, hown, hg⟩ (k_X_tableAt l dC dI cJ cI cT h a1 a2 a3 a4 a5 n k tf tb_) (q_V 1 hg wg_122 wg_120 wg_121 wg_2 wg_13 rfl rfl (by decide +kernel) ⟨Nat.le_of_ble_eq_true rfl, Nat.le_of_ble_eq_true rfl⟩) ⟨wd_blind, va_recv hK hPc (ci := 1) (q0 := 0) rfl rfl, wd_pre (as := .ref h :: [.int tb_]) hPc hK⟩ rfl rfl hl.1 rfl (lv_room (Nat.le_of_ble_eq_true rfl)) d_X_row_2 ⟨Nat.le_of_ble_eq_true rfl, Nat.le_of_ble_eq_true rfl⟩) ?_
  refine W.eq (g2 := F0 m 5 ls (.ref th :: [])) (by rw [hf] <;> rfl) ?_
  refine lv_astore (lv' := [(8, .ref th), (0, .ref h), (1, .int tb_), (2, .long x), (4, .long y), (6, .long b)]) hx hb d_X_row_5 hl (by decide) rfl (fun ls hl => ?_)
  refine lv_aload hx hb d_X_row_7 (lv_at hl 0 rfl) ?_
  refine lv_ifnull hx hb d_X_row_9 ?_
  refine lv_aload hx hb d_X_row_12 (lv_at hl 0 rfl) ?_
  refine lv_lload_n hx hb d_X_row_14 rfl (lv_at hl 3 rfl) ?_
  refine lv_lload hx hb d_X_row_15 (lv_at hl 4 rfl) ?_
  refine lv_lload hx hb d_X_row_17 (lv_at hl 5 rfl) ?_
  have hPc := hP.sub (ws' := [(th, .inr (0, [.ref tx, .ref ty, .long tb, .int tc])), (tx, .inl (cJ, 16, .inr (.inl xs)))]) [2, 3] rfl
  refine W.callV (va_Run.run (va_runVN (As := [.long x, .long y, .long b]) (rest := []) ⟨hx, hb, hml, hown, hg⟩ (k_T_takes l dC dI cJ cI cT th tx ty tb tc xs x y b hc0) ⟨q_N 3 hg wg_124 (hN _ nw_5) wg_14 rfl rfl (by decide +kernel) ⟨Nat.le_of_ble_eq_true rfl, Nat.le_of_ble_eq_true rfl⟩, hg _ wg_123, hg _ wg_3⟩ ⟨wd_blind, va_recv hK hPc (ci := 0) (q0 := 0) rfl rfl, wd_pre (as := .ref th :: [.long x, .long y, .long b]) hPc hK⟩ rfl rfl hl.1 rfl (lv_room (Nat.le_of_ble_eq_true rfl)) d_X_row_19 ⟨Nat.le_of_ble_eq_true rfl, Nat.le_of_ble_eq_true rfl⟩)) ?_
  refine W.eq (g2 := F0 m 22 ls (.int (f_T_takes xs tb tc x y b) :: [])) rfl ?_
  refine lv_if_ne (tgt := 27) hx hb d_X_row_22 (by decide) (fun c_1 => ?_) (fun c_1 => ?_)
  · skip
    refine lv_aload hx hb d_X_row_27 (lv_at hl 0 rfl) ?_
    refine lv_lload_n hx hb d_X_row_29 rfl (lv_at hl 3 rfl) ?_
    refine lv_lload hx hb d_X_row_30 (lv_at hl 4 rfl) ?_
    refine lv_lload hx hb d_X_row_32 (lv_at hl 5 rfl) ?_
    have hPc := hP.sub (ws' := [(th, .inr (0, [.ref tx, .ref ty, .long tb, .int tc])), (tx, .inl (cJ, 16, .inr (.inl xs))), (ty, .inl (cJ, 16, .inr (.inl ys)))]) [2, 3, 4] rfl
    have hDc := hD.sub (ws' := [(th, .inr (0, [.ref tx, .ref ty, .long tb, .int tc])), (tx, .inl (cJ, 16, .inr (.inl xs))), (ty, .inl (cJ, 16, .inr (.inl ys)))]) [2, 3, 4] (by decide) rfl
    have hFc := va_free (wc := [(th, .inr (0, [.ref tx, .ref ty, .long tb, .int tc])), (tx, .inl (cJ, 16, .inr (.inl xs))), (ty, .inl (cJ, 16, .inr (.inl ys)))]) hD hS hA [2, 3, 4] rfl
    refine va_callv (va_runVN (As := [.long x, .long y, .long b]) (rest := []) ⟨hx, hb, hml, hown, hg⟩ (k_T_append l dC dI cJ cI cT th tx ty tb tc xs ys x y b _ hc0) ⟨q_N 3 hg wg_132 (hN _ nw_6) wg_14 rfl rfl (by decide +kernel) ⟨Nat.le_of_ble_eq_true rfl, Nat.le_of_ble_eq_true rfl⟩, hg _ wg_131, hg _ wg_4⟩ ⟨wx_blind, va_recv hK hPc (ci := 0) (q0 := 0) rfl rfl, wx_pre (as := .ref th :: [.long x, .long y, .long b]) hPc hK hDc⟩ rfl rfl hl.1 rfl (lv_room (Nat.le_of_ble_eq_true rfl)) d_X_row_34 ⟨Nat.le_of_ble_eq_true rfl, Nat.le_of_ble_eq_true rfl⟩) hS (fun q _ h => hFc q h) hFc (fun u t H1 locs ht hvm hw_7 hB hz1 hk1 hS => ?_)
    obtain ⟨xs_2, ys_3, tb_4, tc_5⟩ := u
    obtain ⟨hP1, hK1, hD1⟩ := hB
    rw [ht] at hP1
    obtain ⟨hP, hD⟩ := va_join (wr := [(h, .inr (1, [.ref a1, .ref a2, .ref a3, .int n, .ref a4, .int k, .ref a5])), (a5, .inl (cT, 4, .inr (.inr (.inr (.inr tf)))))]) (w1 := [(th, .inr (0, [.ref tx, .ref ty, .long tb_4, .int tc_5])), (tx, .inl (cJ, 16, .inr (.inl xs_2))), (ty, .inl (cJ, 16, .inr (.inl ys_3)))]) hP hD [2, 3, 4] [0, 1] rfl rfl (by decide) (by decide) hk1 hFc hP1 hD1
    generalize H1 = H at hP hS ⊢
    have hP : va_P (dC, dI) classes [(h, .inr (1, [.ref a1, .ref a2, .ref a3, .int n, .ref a4, .int k, .ref a5])), (a5, .inl (cT, 4, .inr (.inr (.inr (.inr tf))))), (th, .inr (0, [.ref tx, .ref ty, .long tb_4, .int tc_5])), (tx, .inl (cJ, 16, .inr (.inl xs_2))), (ty, .inl (cJ, 16, .inr (.inl ys_3)))] H := hP
    have hD : va_D A [(h, .inr (1, [.ref a1, .ref a2, .ref a3, .int n, .ref a4, .int k, .ref a5])), (a5, .inl (cT, 4, .inr (.inr (.inr (.inr tf))))), (th, .inr (0, [.ref tx, .ref ty, .long tb_4, .int tc_5])), (tx, .inl (cJ, 16, .inr (.inl xs_2))), (ty, .inl (cJ, 16, .inr (.inl ys_3)))] := hD
    refine lv_iconst (v := 1) hx hb d_X_row_37 (by decide) ?_
    have hP9 := hP.sub (ws' := [(h, .inr (1, [.ref a1, .ref a2, .ref a3, .int n, .ref a4, .int k, .ref a5])), (a5, .inl (cT, 4, .inr (.inr (.inr (.inr tf))))), (th, .inr (0, [.ref tx, .ref ty, .long tb_4, .int tc_5])), (tx, .inl (cJ, 16, .inr (.inl xs_2))), (ty, .inl (cJ, 16, .inr (.inl ys_3)))]) [0, 1, 2, 3, 4] rfl
    have hD9 := hD.sub (ws' := [(h, .inr (1, [.ref a1, .ref a2, .ref a3, .int n, .ref a4, .int k, .ref a5])), (a5, .inl (cT, 4, .inr (.inr (.inr (.inr tf))))), (th, .inr (0, [.ref tx, .ref ty, .long tb_4, .int tc_5])), (tx, .inl (cJ, 16, .inr (.inl xs_2))), (ty, .inl (cJ, 16, .inr (.inl ys_3)))]) [0, 1, 2, 3, 4] (by decide) rfl
    have hz : (1, (xs_2, ys_3, tb_4, tc_5)) = f_X_row xs ys tb tc x y b := by unfold f_X_row; rw [if_neg c_1]; rw [hw_7]
    exact W.zret (v := 1) hx hb hr rfl (fun t ht hW => ⟨⟨1, (xs_2, ys_3, tb_4, tc_5), rfl, hz, wb_of ht hW hP9 hK hD9⟩, hS.F ht⟩) hS.2.2 d_X_row_38
  · skip
    refine lv_iconst (v := 0) hx hb d_X_row_25 (by decide) ?_
    have hP9 := hP.sub (ws' := [(h, .inr (1, [.ref a1, .ref a2, .ref a3, .int n, .ref a4, .int k, .ref a5])), (a5, .inl (cT, 4, .inr (.inr (.inr (.inr tf))))), (th, .inr (0, [.ref tx, .ref ty, .long tb, .int tc])), (tx, .inl (cJ, 16, .inr (.inl xs))), (ty, .inl (cJ, 16, .inr (.inl ys)))]) [0, 1, 2, 3, 4] rfl
    have hD9 := hD.sub (ws' := [(h, .inr (1, [.ref a1, .ref a2, .ref a3, .int n, .ref a4, .int k, .ref a5])), (a5, .inl (cT, 4, .inr (.inr (.inr (.inr tf))))), (th, .inr (0, [.ref tx, .ref ty, .long tb, .int tc])), (tx, .inl (cJ, 16, .inr (.inl xs))), (ty, .inl (cJ, 16, .inr (.inl ys)))]) [0, 1, 2, 3, 4] (by decide) rfl
    have hz : (0, (xs, ys, tb, tc)) = f_X_row xs ys tb tc x y b := by unfold f_X_row; rw [if_pos c_1]
    exact W.zret (v := 0) hx hb hr rfl (fun t ht hW => ⟨⟨0, (xs, ys, tb, tc), rfl, hz, wb_of ht hW hP9 hK hD9⟩, hS.F ht⟩) hS.2.2 d_X_row_26
set_option maxHeartbeats 4000000 in
set_option maxRecDepth 100000 in
theorem k_X_row_out (l : Launch) (dC : Nat → ClassId) (dI : Nat → Nat → Nat) (cJ cI cT : ClassId) (h a1 a2 a3 a4 a5 : Nat) (n k : Int32) (tf : Nat → Option Nat) (tb_ : Int32) (x y b : Int64) (hf : f_X_tableAt tf tb_ = none) : Met l y_X_row w_X_row ({ frames := 1, cells := 0, slots := 0, locals := 21 }) (va_Pc [.ref h, .int tb_, .long x, .long y, .long b] (wd dC dI cJ cI cT [(h, .inr (1, [.ref a1, .ref a2, .ref a3, .int n, .ref a4, .int k, .ref a5])), (a5, .inl (cT, 4, .inr (.inr (.inr (.inr tf)))))])) (k2_QcV (.int ((0 : Int32)))) 0 0 (fun _ => False) := by
  refine Met.ofW (cc := c_X_row) (maxL := 9) (ret := (Option.some Jvm.ClassFile.FieldType.boolean)) (by decide) rfl ?_
  intro p e s m args below meth c s₁ B hml hv
  obtain ⟨rfl, hP, hK⟩ := hv
  have hx := B.exec
  have hb := B.bytes
  have hr := B.returns
  have hts := atoms_spec (ws := w_X_row) B.pre
  have hg : ∀ w ∈ WG, w.before _ s = true := fun w h => hts w (List.mem_cons_of_mem _ h)
  have hown : s.vm.findClass R_X = some m.cls := findClass_of_methodNamed B.named
  have hlocks := B.notSynchronized
  have hl := lv_entry ([.ref h, .int tb_, .long x, .long y, .long b]) (n := 9) (Nat.le_of_ble_eq_true rfl)
  rw [lg_entry_eq]
  generalize (lg_sl ([.ref h, .int tb_, .long x, .long y, .long b]) ++ List.replicate (9 - (lg_sl ([.ref h, .int tb_, .long x, .long y, .long b])).length) Slot.unset).toArray = ls at hl ⊢
  have hl : lv_has ls 9 [(0, .ref h), (1, .int tb_), (2, .long x), (4, .long y), (6, .long b)] := hl
  have hP : va_P (dC, dI) classes [(h, .inr (1, [.ref a1, .ref a2, .ref a3, .int n, .ref a4, .int k, .ref a5])), (a5, .inl (cT, 4, .inr (.inr (.inr (.inr tf)))))] s.heap := hP
  refine lv_aload_n hx hb d_X_row_0 rfl (lv_at hl 0 rfl) ?_
  refine lv_iload_n hx hb d_X_row_1 rfl (lv_at hl 1 rfl) ?_
  have hPc := hP.sub (ws' := [(h, .inr (1, [.ref a1, .ref a2, .ref a3, .int n, .ref a4, .int k, .ref a5])), (a5, .inl (cT, 4, .inr (.inr (.inr (.inr tf)))))]) [0, 1] rfl
  refine W.callV (W.runV (As := [.int tb_]) (rest := []) ⟨hx, hb, hml, hown, hg⟩ (k_X_tableAt l dC dI cJ cI cT h a1 a2 a3 a4 a5 n k tf tb_) (q_V 1 hg wg_122 wg_120 wg_121 wg_2 wg_13 rfl rfl (by decide +kernel) ⟨Nat.le_of_ble_eq_true rfl, Nat.le_of_ble_eq_true rfl⟩) ⟨wd_blind, va_recv hK hPc (ci := 1) (q0 := 0) rfl rfl, wd_pre (as := .ref h :: [.int tb_]) hPc hK⟩ rfl rfl hl.1 rfl (lv_room (Nat.le_of_ble_eq_true rfl)) d_X_row_2 ⟨Nat.le_of_ble_eq_true rfl, Nat.le_of_ble_eq_true rfl⟩) ?_
  refine W.eq (g2 := F0 m 5 ls (.null :: [])) (by rw [hf] <;> rfl) ?_
  refine lv_astoreN (lv' := [(8, .null), (0, .ref h), (1, .int tb_), (2, .long x), (4, .long y), (6, .long b)]) hx hb d_X_row_5 hl (by decide) rfl (fun ls hl => ?_)
  refine lv_aloadN hx hb d_X_row_7 (lv_at hl 0 rfl) ?_
  refine lv_ifnullN (tgt := 25) hx hb d_X_row_9 (by decide) ?_
  refine lv_iconst (v := 0) hx hb d_X_row_25 (by decide) ?_
  exact W.zret hx hb hr rfl (fun t ht _ => ⟨rfl, ht⟩) (fun _ h => by cases h) d_X_row_26
def f_X_keepBetween (ab be : Nat → Int64) (un : Nat → Int32) (n : Int32) (tb : Int64) (xs ys : Nat → Int64) (nx a : Int32) : Int32 × (Nat → Int64) × (Nat → Int64) × (Nat → Int32) × Int32 := (f_X_keep ab be un n ((((ys (nx - 1).toNatClampNeg) * ((xs nx.toNatClampNeg) - (xs (nx - 1).toNatClampNeg))) * (be a.toNatClampNeg)) + (((ys nx.toNatClampNeg) - (ys (nx - 1).toNatClampNeg)) * (((ab a.toNatClampNeg) * tb) - ((xs (nx - 1).toNatClampNeg) * (be a.toNatClampNeg))))) ((((xs nx.toNatClampNeg) - (xs (nx - 1).toNatClampNeg)) * (be a.toNatClampNeg)) * tb) 0)
set_option maxHeartbeats 4000000 in
set_option maxRecDepth 100000 in
theorem k_X_keepBetween (l : Launch) (dC : Nat → ClassId) (dI : Nat → Nat → Nat) (cJ cI cT : ClassId) (h a1 a2 a3 a4 a5 : Nat) (n k : Int32) (ab be : Nat → Int64) (un : Nat → Int32) (th tx ty : Nat) (tb : Int64) (tc : Int32) (xs ys : Nat → Int64) (nx a : Int32) (sz : Nat) (hn0 : 0 ≤ n.toInt) (ha : vp_in a 500) (hx1 : vp_in nx 16) (hx2 : vp_in (nx - 1) 16) : Met l y_X_keepBetween w_X_keepBetween ({ frames := 3, cells := 0, slots := 0, locals := 84 }) (va_Pc [.ref h, .ref th, .int nx, .int a] (fun U => wx dC dI cJ cI cT sz [(h, .inr (1, [.ref a1, .ref a2, .ref a3, .int n, .ref a4, .int k, .ref a5])), (a1, .inl (cJ, 500, .inr (.inl ab))), (a2, .inl (cJ, 500, .inr (.inl be))), (a3, .inl (cI, 500, .inl un)), (th, .inr (0, [.ref tx, .ref ty, .long tb, .int tc])), (tx, .inl (cJ, 16, .inr (.inl xs))), (ty, .inl (cJ, 16, .inr (.inl ys)))] U ∧ nwd U)) (va_Qi (fun (r9 : Int32) (u9 : (Nat → Int64) × (Nat → Int64) × (Nat → Int32) × Int32) => (r9, u9) = f_X_keepBetween ab be un n tb xs ys nx a) (fun u => wb dC dI cJ cI cT (va_A [(h, .inr (1, [.ref a1, .ref a2, .ref a3, .int n, .ref a4, .int k, .ref a5])), (a1, .inl (cJ, 500, .inr (.inl ab))), (a2, .inl (cJ, 500, .inr (.inl be))), (a3, .inl (cI, 500, .inl un)), (th, .inr (0, [.ref tx, .ref ty, .long tb, .int tc])), (tx, .inl (cJ, 16, .inr (.inl xs))), (ty, .inl (cJ, 16, .inr (.inl ys)))] sz) [(h, .inr (1, [.ref a1, .ref a2, .ref a3, .int u.2.2.2, .ref a4, .int k, .ref a5])), (a1, .inl (cJ, 500, .inr (.inl u.1))), (a2, .inl (cJ, 500, .inr (.inl u.2.1))), (a3, .inl (cI, 500, .inl u.2.2.1)), (th, .inr (0, [.ref tx, .ref ty, .long tb, .int tc])), (tx, .inl (cJ, 16, .inr (.inl xs))), (ty, .inl (cJ, 16, .inr (.inl ys)))]) (va_A [(h, .inr (1, [.ref a1, .ref a2, .ref a3, .int n, .ref a4, .int k, .ref a5])), (a1, .inl (cJ, 500, .inr (.inl ab))), (a2, .inl (cJ, 500, .inr (.inl be))), (a3, .inl (cI, 500, .inl un)), (th, .inr (0, [.ref tx, .ref ty, .long tb, .int tc])), (tx, .inl (cJ, 16, .inr (.inl xs))), (ty, .inl (cJ, 16, .inr (.inl ys)))] sz)) 0 0 (va_A [(h, .inr (1, [.ref a1, .ref a2, .ref a3, .int n, .ref a4, .int k, .ref a5])), (a1, .inl (cJ, 500, .inr (.inl ab))), (a2, .inl (cJ, 500, .inr (.inl be))), (a3, .inl (cI, 500, .inl un)), (th, .inr (0, [.ref tx, .ref ty, .long tb, .int tc])), (tx, .inl (cJ, 16, .inr (.inl xs))), (ty, .inl (cJ, 16, .inr (.inl ys)))] sz) := by
  refine Met.ofW (cc := c_X_keepBetween) (maxL := 12) (ret := (Option.some Jvm.ClassFile.FieldType.int)) (by decide) rfl ?_
  intro p e s m args below meth c s₁ B hml hv
  obtain ⟨rfl, ⟨hsz, hP, hK, hD0⟩, hN⟩ := hv
  have hx := B.exec
  have hb := B.bytes
  have hr := B.returns
  have hts := atoms_spec (ws := w_X_keepBetween) B.pre
  have hg : ∀ w ∈ WG, w.before _ s = true := fun w h => hts w (List.mem_cons_of_mem _ h)
  have hown : s.vm.findClass R_X = some m.cls := findClass_of_methodNamed B.named
  have hlocks := B.notSynchronized
  have hl := lv_entry ([.ref h, .ref th, .int nx, .int a]) (n := 12) (Nat.le_of_ble_eq_true rfl)
  rw [lg_entry_eq]
  generalize (lg_sl ([.ref h, .ref th, .int nx, .int a]) ++ List.replicate (12 - (lg_sl ([.ref h, .ref th, .int nx, .int a])).length) Slot.unset).toArray = ls at hl ⊢
  have hl : lv_has ls 12 [(0, .ref h), (1, .ref th), (2, .int nx), (3, .int a)] := hl
  subst hsz
  have hD := hD0.self (sz := s.heap.size)
  generalize hAe : va_A [(h, .inr (1, [.ref a1, .ref a2, .ref a3, .int n, .ref a4, .int k, .ref a5])), (a1, .inl (cJ, 500, .inr (.inl ab))), (a2, .inl (cJ, 500, .inr (.inl be))), (a3, .inl (cI, 500, .inl un)), (th, .inr (0, [.ref tx, .ref ty, .long tb, .int tc])), (tx, .inl (cJ, 16, .inr (.inl xs))), (ty, .inl (cJ, 16, .inr (.inl ys)))] s.heap.size = A at hD ⊢
  have hA : ∀ q : Nat, s.heap.size ≤ q → A q := fun q h => by rw [← hAe]; exact Or.inr h
  have hS : va_S A s.heap s.heap [] := va_S.rf
  have hP : va_P (dC, dI) classes [(h, .inr (1, [.ref a1, .ref a2, .ref a3, .int n, .ref a4, .int k, .ref a5])), (a1, .inl (cJ, 500, .inr (.inl ab))), (a2, .inl (cJ, 500, .inr (.inl be))), (a3, .inl (cI, 500, .inl un)), (th, .inr (0, [.ref tx, .ref ty, .long tb, .int tc])), (tx, .inl (cJ, 16, .inr (.inl xs))), (ty, .inl (cJ, 16, .inr (.inl ys)))] s.heap := hP
  have hD : va_D A [(h, .inr (1, [.ref a1, .ref a2, .ref a3, .int n, .ref a4, .int k, .ref a5])), (a1, .inl (cJ, 500, .inr (.inl ab))), (a2, .inl (cJ, 500, .inr (.inl be))), (a3, .inl (cI, 500, .inl un)), (th, .inr (0, [.ref tx, .ref ty, .long tb, .int tc])), (tx, .inl (cJ, 16, .inr (.inl xs))), (ty, .inl (cJ, 16, .inr (.inl ys)))] := hD
  skip
  refine lv_aload_n hx hb d_X_keepBetween_0 rfl (lv_at hl 1 rfl) ?_
  refine va_getN (D := (dC, dI)) (ci := 0) (v := .ref tx) (C := R_T) (T := F_T) (N := 4) hx hb hg in_T hown hK hP 4 rfl rfl 0 (by decide) (va_Nw.use rfl (hN _ nw_1)) (fun _ h9 => h9) rfl d_X_keepBetween_1 ?_
  refine lv_iload_n hx hb d_X_keepBetween_4 rfl (lv_at hl 2 rfl) ?_
  refine va_lald hx hb hK hP 5 0 rfl rfl hx1 d_X_keepBetween_5 ?_
  refine lv_aload_n hx hb d_X_keepBetween_6 rfl (lv_at hl 1 rfl) ?_
  refine va_getN (D := (dC, dI)) (ci := 0) (v := .ref tx) (C := R_T) (T := F_T) (N := 4) hx hb hg in_T hown hK hP 4 rfl rfl 0 (by decide) (va_Nw.use rfl (hN _ nw_1)) (fun _ h9 => h9) rfl d_X_keepBetween_7 ?_
  refine lv_iload_n hx hb d_X_keepBetween_10 rfl (lv_at hl 2 rfl) ?_
  refine lv_iconst (v := 1) hx hb d_X_keepBetween_11 (by decide) ?_
  refine lv_isub hx hb d_X_keepBetween_12 ?_
  refine lv_topi (fun i_1 ei_1 => ?_)
  refine va_lald hx hb hK hP 5 0 rfl rfl (by rw [ei_1]; exact hx2) d_X_keepBetween_13 ?_
  refine lv_lsub hx hb d_X_keepBetween_14 ?_
  refine lv_topl (fun v_2 ev_2 => ?_)
  refine lv_lstore (lv' := [(4, .long v_2), (0, .ref h), (1, .ref th), (2, .int nx), (3, .int a)]) hx hb d_X_keepBetween_15 hl (by decide) rfl (fun ls hl => ?_)
  refine lv_aload_n hx hb d_X_keepBetween_17 rfl (lv_at hl 2 rfl) ?_
  refine va_getN (D := (dC, dI)) (ci := 0) (v := .ref ty) (C := R_T) (T := F_T) (N := 4) hx hb hg in_T hown hK hP 4 rfl rfl 1 (by decide) (va_Nw.use rfl (hN _ nw_2)) (fun _ h9 => h9) rfl d_X_keepBetween_18 ?_
  refine lv_iload_n hx hb d_X_keepBetween_21 rfl (lv_at hl 3 rfl) ?_
  refine va_lald hx hb hK hP 6 0 rfl rfl hx1 d_X_keepBetween_22 ?_
  refine lv_aload_n hx hb d_X_keepBetween_23 rfl (lv_at hl 2 rfl) ?_
  refine va_getN (D := (dC, dI)) (ci := 0) (v := .ref ty) (C := R_T) (T := F_T) (N := 4) hx hb hg in_T hown hK hP 4 rfl rfl 1 (by decide) (va_Nw.use rfl (hN _ nw_2)) (fun _ h9 => h9) rfl d_X_keepBetween_24 ?_
  refine lv_iload_n hx hb d_X_keepBetween_27 rfl (lv_at hl 3 rfl) ?_
  refine lv_iconst (v := 1) hx hb d_X_keepBetween_28 (by decide) ?_
  refine lv_isub hx hb d_X_keepBetween_29 ?_
  refine lv_topi (fun i_3 ei_3 => ?_)
  refine va_lald hx hb hK hP 6 0 rfl rfl (by rw [ei_3]; exact hx2) d_X_keepBetween_30 ?_
  refine lv_lsub hx hb d_X_keepBetween_31 ?_
  refine lv_topl (fun v_4 ev_4 => ?_)
  refine lv_lstore (lv' := [(6, .long v_4), (4, .long v_2), (0, .ref h), (1, .ref th), (2, .int nx), (3, .int a)]) hx hb d_X_keepBetween_32 hl (by decide) rfl (fun ls hl => ?_)
  refine lv_aload_n hx hb d_X_keepBetween_34 rfl (lv_at hl 2 rfl) ?_
  refine va_get (D := (dC, dI)) (ci := 1) (v := .ref a1) (C := R_X) (T := F_X) (N := 7) hx hb hg in_X hown hK hP 0 rfl rfl 0 (by decide) (hg _ wg_46) (fun _ h9 => h9) rfl d_X_keepBetween_35 ?_
  refine lv_iload_n hx hb d_X_keepBetween_38 rfl (lv_at hl 5 rfl) ?_
  refine va_lald hx hb hK hP 1 0 rfl rfl ha d_X_keepBetween_39 ?_
  refine lv_aload_n hx hb d_X_keepBetween_40 rfl (lv_at hl 3 rfl) ?_
  refine va_getN (D := (dC, dI)) (ci := 0) (v := .long tb) (C := R_T) (T := F_T) (N := 4) hx hb hg in_T hown hK hP 4 rfl rfl 2 (by decide) (va_Nw.use rfl (hN _ nw_3)) (fun _ h9 => h9) rfl d_X_keepBetween_41 ?_
  refine lv_lmul hx hb d_X_keepBetween_44 ?_
  refine lv_aload_n hx hb d_X_keepBetween_45 rfl (lv_at hl 3 rfl) ?_
  refine va_getN (D := (dC, dI)) (ci := 0) (v := .ref tx) (C := R_T) (T := F_T) (N := 4) hx hb hg in_T hown hK hP 4 rfl rfl 0 (by decide) (va_Nw.use rfl (hN _ nw_1)) (fun _ h9 => h9) rfl d_X_keepBetween_46 ?_
  refine lv_iload_n hx hb d_X_keepBetween_49 rfl (lv_at hl 4 rfl) ?_
  refine lv_iconst (v := 1) hx hb d_X_keepBetween_50 (by decide) ?_
  refine lv_isub hx hb d_X_keepBetween_51 ?_
  refine lv_topi (fun i_5 ei_5 => ?_)
  refine va_lald hx hb hK hP 5 0 rfl rfl (by rw [ei_5]; exact hx2) d_X_keepBetween_52 ?_
  refine lv_aload_n hx hb d_X_keepBetween_53 rfl (lv_at hl 2 rfl) ?_
  refine va_get (D := (dC, dI)) (ci := 1) (v := .ref a2) (C := R_X) (T := F_X) (N := 7) hx hb hg in_X hown hK hP 0 rfl rfl 1 (by decide) (hg _ wg_47) (fun _ h9 => h9) rfl d_X_keepBetween_54 ?_
  refine lv_iload_n hx hb d_X_keepBetween_57 rfl (lv_at hl 5 rfl) ?_
  refine va_lald hx hb hK hP 2 0 rfl rfl ha d_X_keepBetween_58 ?_
  refine lv_lmul hx hb d_X_keepBetween_59 ?_
  refine lv_lsub hx hb d_X_keepBetween_60 ?_
  refine lv_topl (fun v_6 ev_6 => ?_)
  refine lv_lstore (lv' := [(8, .long v_6), (6, .long v_4), (4, .long v_2), (0, .ref h), (1, .ref th), (2, .int nx), (3, .int a)]) hx hb d_X_keepBetween_61 hl (by decide) rfl (fun ls hl => ?_)
  refine lv_aload_n hx hb d_X_keepBetween_63 rfl (lv_at hl 4 rfl) ?_
  refine va_getN (D := (dC, dI)) (ci := 0) (v := .ref ty) (C := R_T) (T := F_T) (N := 4) hx hb hg in_T hown hK hP 4 rfl rfl 1 (by decide) (va_Nw.use rfl (hN _ nw_2)) (fun _ h9 => h9) rfl d_X_keepBetween_64 ?_
  refine lv_iload_n hx hb d_X_keepBetween_67 rfl (lv_at hl 5 rfl) ?_
  refine lv_iconst (v := 1) hx hb d_X_keepBetween_68 (by decide) ?_
  refine lv_isub hx hb d_X_keepBetween_69 ?_
  refine lv_topi (fun i_7 ei_7 => ?_)
  refine va_lald hx hb hK hP 6 0 rfl rfl (by rw [ei_7]; exact hx2) d_X_keepBetween_70 ?_
  refine lv_lload hx hb d_X_keepBetween_71 (lv_at hl 2 rfl) ?_
  refine lv_lmul hx hb d_X_keepBetween_73 ?_
  refine lv_aload_n hx hb d_X_keepBetween_74 rfl (lv_at hl 3 rfl) ?_
  refine va_get (D := (dC, dI)) (ci := 1) (v := .ref a2) (C := R_X) (T := F_X) (N := 7) hx hb hg in_X hown hK hP 0 rfl rfl 1 (by decide) (hg _ wg_47) (fun _ h9 => h9) rfl d_X_keepBetween_75 ?_
  refine lv_iload_n hx hb d_X_keepBetween_78 rfl (lv_at hl 6 rfl) ?_
  refine va_lald hx hb hK hP 2 0 rfl rfl ha d_X_keepBetween_79 ?_
  refine lv_lmul hx hb d_X_keepBetween_80 ?_
  refine lv_lload hx hb d_X_keepBetween_81 (lv_at hl 1 rfl) ?_
  refine lv_lload hx hb d_X_keepBetween_83 (lv_at hl 0 rfl) ?_
  refine lv_lmul hx hb d_X_keepBetween_85 ?_
  refine lv_ladd hx hb d_X_keepBetween_86 ?_
  refine lv_topl (fun v_8 ev_8 => ?_)
  refine lv_lstore (lv' := [(10, .long v_8), (8, .long v_6), (6, .long v_4), (4, .long v_2), (0, .ref h), (1, .ref th), (2, .int nx), (3, .int a)]) hx hb d_X_keepBetween_87 hl (by decide) rfl (fun ls hl => ?_)
  refine lv_aload_n hx hb d_X_keepBetween_89 rfl (lv_at hl 4 rfl) ?_
  refine lv_lload hx hb d_X_keepBetween_90 (lv_at hl 0 rfl) ?_
  refine lv_lload hx hb d_X_keepBetween_92 (lv_at hl 3 rfl) ?_
  refine lv_aload_n hx hb d_X_keepBetween_94 rfl (lv_at hl 4 rfl) ?_
  refine va_get (D := (dC, dI)) (ci := 1) (v := .ref a2) (C := R_X) (T := F_X) (N := 7) hx hb hg in_X hown hK hP 0 rfl rfl 1 (by decide) (hg _ wg_47) (fun _ h9 => h9) rfl d_X_keepBetween_95 ?_
  refine lv_iload_n hx hb d_X_keepBetween_98 rfl (lv_at hl 7 rfl) ?_
  refine va_lald hx hb hK hP 2 0 rfl rfl ha d_X_keepBetween_99 ?_
  refine lv_lmul hx hb d_X_keepBetween_100 ?_
  refine lv_aload_n hx hb d_X_keepBetween_101 rfl (lv_at hl 5 rfl) ?_
  refine va_getN (D := (dC, dI)) (ci := 0) (v := .long tb) (C := R_T) (T := F_T) (N := 4) hx hb hg in_T hown hK hP 4 rfl rfl 2 (by decide) (va_Nw.use rfl (hN _ nw_3)) (fun _ h9 => h9) rfl d_X_keepBetween_102 ?_
  refine lv_lmul hx hb d_X_keepBetween_105 ?_
  refine lv_iconst (v := 0) hx hb d_X_keepBetween_106 (by decide) ?_
  have hPc := hP.sub (ws' := [(h, .inr (1, [.ref a1, .ref a2, .ref a3, .int n, .ref a4, .int k, .ref a5])), (a1, .inl (cJ, 500, .inr (.inl ab))), (a2, .inl (cJ, 500, .inr (.inl be))), (a3, .inl (cI, 500, .inl un))]) [0, 1, 2, 3] rfl
  have hDc := hD.sub (ws' := [(h, .inr (1, [.ref a1, .ref a2, .ref a3, .int n, .ref a4, .int k, .ref a5])), (a1, .inl (cJ, 500, .inr (.inl ab))), (a2, .inl (cJ, 500, .inr (.inl be))), (a3, .inl (cI, 500, .inl un))]) [0, 1, 2, 3] (by decide) rfl
  have hFc := va_free (wc := [(h, .inr (1, [.ref a1, .ref a2, .ref a3, .int n, .ref a4, .int k, .ref a5])), (a1, .inl (cJ, 500, .inr (.inl ab))), (a2, .inl (cJ, 500, .inr (.inl be))), (a3, .inl (cI, 500, .inl un))]) hD hS hA [0, 1, 2, 3] rfl
  refine va_calli (va_runV (As := [.long v_8, .long ((v_2 * (be a.toNatClampNeg)) * tb), .int 0]) (rest := []) ⟨hx, hb, hml, hown, hg⟩ (k_X_keep l dC dI cJ cI cT h a1 a2 a3 a4 a5 n k ab be un v_8 ((v_2 * (be a.toNatClampNeg)) * tb) 0 _ hn0) (q_V 3 hg wg_69 wg_67 wg_68 wg_1 wg_13 rfl rfl (by decide +kernel) ⟨Nat.le_of_ble_eq_true rfl, Nat.le_of_ble_eq_true rfl⟩) ⟨wx_blind, va_recv hK hPc (ci := 1) (q0 := 0) rfl rfl, wx_pre (as := .ref h :: [.long v_8, .long ((v_2 * (be a.toNatClampNeg)) * tb), .int 0]) hPc hK hDc⟩ rfl rfl hl.1 rfl (lv_room (Nat.le_of_ble_eq_true rfl)) d_X_keepBetween_107 ⟨Nat.le_of_ble_eq_true rfl, Nat.le_of_ble_eq_true rfl⟩) hS (fun q _ h => hFc q h) hFc (fun r_13 u t H1 locs ht hvm hw_14 hB hz1 hk1 hS => ?_)
  obtain ⟨ab_9, be_10, un_11, n_12⟩ := u
  obtain ⟨hP1, hK1, hD1⟩ := hB
  rw [ht] at hP1
  obtain ⟨hP, hD⟩ := va_join (wr := [(th, .inr (0, [.ref tx, .ref ty, .long tb, .int tc])), (tx, .inl (cJ, 16, .inr (.inl xs))), (ty, .inl (cJ, 16, .inr (.inl ys)))]) (w1 := [(h, .inr (1, [.ref a1, .ref a2, .ref a3, .int n_12, .ref a4, .int k, .ref a5])), (a1, .inl (cJ, 500, .inr (.inl ab_9))), (a2, .inl (cJ, 500, .inr (.inl be_10))), (a3, .inl (cI, 500, .inl un_11))]) hP hD [0, 1, 2, 3] [4, 5, 6] rfl rfl (by decide) (by decide) hk1 hFc hP1 hD1
  generalize H1 = H at hP hS ⊢
  have hP : va_P (dC, dI) classes [(th, .inr (0, [.ref tx, .ref ty, .long tb, .int tc])), (tx, .inl (cJ, 16, .inr (.inl xs))), (ty, .inl (cJ, 16, .inr (.inl ys))), (h, .inr (1, [.ref a1, .ref a2, .ref a3, .int n_12, .ref a4, .int k, .ref a5])), (a1, .inl (cJ, 500, .inr (.inl ab_9))), (a2, .inl (cJ, 500, .inr (.inl be_10))), (a3, .inl (cI, 500, .inl un_11))] H := hP
  have hD : va_D A [(th, .inr (0, [.ref tx, .ref ty, .long tb, .int tc])), (tx, .inl (cJ, 16, .inr (.inl xs))), (ty, .inl (cJ, 16, .inr (.inl ys))), (h, .inr (1, [.ref a1, .ref a2, .ref a3, .int n_12, .ref a4, .int k, .ref a5])), (a1, .inl (cJ, 500, .inr (.inl ab_9))), (a2, .inl (cJ, 500, .inr (.inl be_10))), (a3, .inl (cI, 500, .inl un_11))] := hD
  subst ev_8
  subst ei_7
  subst ev_6
  subst ei_5
  subst ev_4
  subst ei_3
  subst ev_2
  subst ei_1
  have hP9 := hP.sub (ws' := [(h, .inr (1, [.ref a1, .ref a2, .ref a3, .int n_12, .ref a4, .int k, .ref a5])), (a1, .inl (cJ, 500, .inr (.inl ab_9))), (a2, .inl (cJ, 500, .inr (.inl be_10))), (a3, .inl (cI, 500, .inl un_11)), (th, .inr (0, [.ref tx, .ref ty, .long tb, .int tc])), (tx, .inl (cJ, 16, .inr (.inl xs))), (ty, .inl (cJ, 16, .inr (.inl ys)))]) [3, 4, 5, 6, 0, 1, 2] rfl
  have hD9 := hD.sub (ws' := [(h, .inr (1, [.ref a1, .ref a2, .ref a3, .int n_12, .ref a4, .int k, .ref a5])), (a1, .inl (cJ, 500, .inr (.inl ab_9))), (a2, .inl (cJ, 500, .inr (.inl be_10))), (a3, .inl (cI, 500, .inl un_11)), (th, .inr (0, [.ref tx, .ref ty, .long tb, .int tc])), (tx, .inl (cJ, 16, .inr (.inl xs))), (ty, .inl (cJ, 16, .inr (.inl ys)))]) [3, 4, 5, 6, 0, 1, 2] (by decide) rfl
  have hz : (r_13, (ab_9, be_10, un_11, n_12)) = f_X_keepBetween ab be un n tb xs ys nx a := by unfold f_X_keepBetween; skip; exact hw_14
  exact W.iret (v := r_13) hx hb hr (fun t ht hW => ⟨⟨r_13, (ab_9, be_10, un_11, n_12), rfl, hz, wb_of ht hW hP9 hK hD9⟩, hS.F ht⟩) hS.2.2 d_X_keepBetween_110
end
section
theorem in_pred2 {n : Int32} (h0 : 0 ≤ n.toInt) (h1 : n.toInt ≤ (16 : Nat)) (h2 : ¬ n = 0) : vp_in (n - 1) 16 := by
  rw [vp_in_iff]
  have h3 : n.toInt ≠ 0 := fun e => h2 (Int32.toInt_inj.mp e)
  have e1 : (n - 1).toInt = n.toInt - 1 := Jvm.Kit.i32_sub (by have : (1 : Int32).toInt = 1 := rfl; omega) (by have : (1 : Int32).toInt = 1 := rfl; omega)
  omega
theorem fn_le (xs : Nat → Int64) (d so : Int64) : ∀ (n j : Nat), j ≤ fn_L xs d so n j ∧ fn_L xs d so n j ≤ j + n
  | 0, j => ⟨Nat.le_refl _, Nat.le_refl _⟩
  | n + 1, j => by
    unfold fn_L
    by_cases h : so ≤ xs j * d
    · rw [if_pos h]; omega
    · rw [if_neg h]
      have := fn_le xs d so n (j + 1)
      omega
theorem cl_le {tc : Int32} (h0 : 0 ≤ tc.toInt) : (tc.toNatClampNeg : Int) = tc.toInt := by
  obtain ⟨q, hq, e⟩ := nI_of (x := tc) (fun hh => by rw [Int32.lt_iff_toInt_lt] at hh; have e0 : (0 : Int32).toInt = 0 := rfl; omega)
  rw [e, nI_clamp hq, nI_toInt hq]
theorem fnb_in {xs : Nat → Int64} {tb : Int64} {tc : Int32} {x d : Int64} (h0 : 0 ≤ tc.toInt) (h1 : tc.toInt ≤ (16 : Nat)) : 0 ≤ (f_T_firstNotBefore xs tb tc x d).toInt ∧ (f_T_firstNotBefore xs tb tc x d).toInt ≤ (16 : Nat) := by
  have h2 := fn_le xs d (x * tb) tc.toNatClampNeg 0
  have h3 := cl_le h0
  unfold f_T_firstNotBefore
  rw [nI_toInt (by omega)]
  omega
theorem in_nn {a n : Int32} {N : Nat} (h0 : 0 ≤ a.toInt) (h1 : a < n) (hn : n.toInt ≤ N) : vp_in a N := by
  rw [vp_in_iff]
  rw [Int32.lt_iff_toInt_lt] at h1
  omega
def f_X_join (ab be : Nat → Int64) (un : Nat → Int32) (n : Int32) (tb : Int64) (tc : Int32) (xs ys : Nat → Int64) (a : Int32) : Int32 × (Nat → Int64) × (Nat → Int64) × (Nat → Int32) × Int32 := if (f_X_isAmount a n) = 0 then ((-3), (ab, be, un, n)) else if tc = 0 then ((-1), (ab, be, un, n)) else if (f_T_firstNotBefore xs tb tc (ab a.toNatClampNeg) (be a.toNatClampNeg)) = 0 then (f_X_keep ab be un n (ys (0 : Int32).toNatClampNeg) tb 0) else if (f_T_firstNotBefore xs tb tc (ab a.toNatClampNeg) (be a.toNatClampNeg)) < tc then (f_X_keepBetween ab be un n tb xs ys (f_T_firstNotBefore xs tb tc (ab a.toNatClampNeg) (be a.toNatClampNeg)) a) else (f_X_keep ab be un n (ys (tc - 1).toNatClampNeg) tb 0)
set_option maxHeartbeats 4000000 in
set_option maxRecDepth 100000 in
theorem k_X_join (l : Launch) (dC : Nat → ClassId) (dI : Nat → Nat → Nat) (cJ cI cT : ClassId) (h a1 a2 a3 a4 a5 : Nat) (n k : Int32) (ab be : Nat → Int64) (un : Nat → Int32) (tf : Nat → Option Nat) (th tx ty : Nat) (tb : Int64) (tc : Int32) (xs ys : Nat → Int64) (tb_ a : Int32) (sz : Nat) (hn0 : 0 ≤ n.toInt) (hn : n.toInt ≤ (500 : Nat)) (hf : f_X_tableAt tf tb_ = some th) (hc0 : 0 ≤ tc.toInt) (hc : tc.toInt ≤ (16 : Nat)) : Met l y_X_join w_X_join ({ frames := 4, cells := 0, slots := 0, locals := 115 }) (va_Pc [.ref h, .int tb_, .int a] (fun U => wx dC dI cJ cI cT sz [(h, .inr (1, [.ref a1, .ref a2, .ref a3, .int n, .ref a4, .int k, .ref a5])), (a1, .inl (cJ, 500, .inr (.inl ab))), (a2, .inl (cJ, 500, .inr (.inl be))), (a3, .inl (cI, 500, .inl un)), (a5, .inl (cT, 4, .inr (.inr (.inr (.inr tf))))), (th, .inr (0, [.ref tx, .ref ty, .long tb, .int tc])), (tx, .inl (cJ, 16, .inr (.inl xs))), (ty, .inl (cJ, 16, .inr (.inl ys)))] U ∧ nwd U)) (va_Qi (fun (r9 : Int32) (u9 : (Nat → Int64) × (Nat → Int64) × (Nat → Int32) × Int32) => (r9, u9) = f_X_join ab be un n tb tc xs ys a) (fun u => wb dC dI cJ cI cT (va_A [(h, .inr (1, [.ref a1, .ref a2, .ref a3, .int n, .ref a4, .int k, .ref a5])), (a1, .inl (cJ, 500, .inr (.inl ab))), (a2, .inl (cJ, 500, .inr (.inl be))), (a3, .inl (cI, 500, .inl un)), (a5, .inl (cT, 4, .inr (.inr (.inr (.inr tf))))), (th, .inr (0, [.ref tx, .ref ty, .long tb, .int tc])), (tx, .inl (cJ, 16, .inr (.inl xs))), (ty, .inl (cJ, 16, .inr (.inl ys)))] sz) [(h, .inr (1, [.ref a1, .ref a2, .ref a3, .int u.2.2.2, .ref a4, .int k, .ref a5])), (a1, .inl (cJ, 500, .inr (.inl u.1))), (a2, .inl (cJ, 500, .inr (.inl u.2.1))), (a3, .inl (cI, 500, .inl u.2.2.1)), (a5, .inl (cT, 4, .inr (.inr (.inr (.inr tf))))), (th, .inr (0, [.ref tx, .ref ty, .long tb, .int tc])), (tx, .inl (cJ, 16, .inr (.inl xs))), (ty, .inl (cJ, 16, .inr (.inl ys)))]) (va_A [(h, .inr (1, [.ref a1, .ref a2, .ref a3, .int n, .ref a4, .int k, .ref a5])), (a1, .inl (cJ, 500, .inr (.inl ab))), (a2, .inl (cJ, 500, .inr (.inl be))), (a3, .inl (cI, 500, .inl un)), (a5, .inl (cT, 4, .inr (.inr (.inr (.inr tf))))), (th, .inr (0, [.ref tx, .ref ty, .long tb, .int tc])), (tx, .inl (cJ, 16, .inr (.inl xs))), (ty, .inl (cJ, 16, .inr (.inl ys)))] sz)) 0 0 (va_A [(h, .inr (1, [.ref a1, .ref a2, .ref a3, .int n, .ref a4, .int k, .ref a5])), (a1, .inl (cJ, 500, .inr (.inl ab))), (a2, .inl (cJ, 500, .inr (.inl be))), (a3, .inl (cI, 500, .inl un)), (a5, .inl (cT, 4, .inr (.inr (.inr (.inr tf))))), (th, .inr (0, [.ref tx, .ref ty, .long tb, .int tc])), (tx, .inl (cJ, 16, .inr (.inl xs))), (ty, .inl (cJ, 16, .inr (.inl ys)))] sz) := by
  refine Met.ofW (cc := c_X_join) (maxL := 5) (ret := (Option.some Jvm.ClassFile.FieldType.int)) (by decide) rfl ?_
  intro p e s m args below meth c s₁ B hml hv
  obtain ⟨rfl, ⟨hsz, hP, hK, hD0⟩, hN⟩ := hv
  have hx := B.exec
  have hb := B.bytes
  have hr := B.returns
  have hts := atoms_spec (ws := w_X_join) B.pre
  have hg : ∀ w ∈ WG, w.before _ s = true := fun w h => hts w (List.mem_cons_of_mem _ h)
  have hown : s.vm.findClass R_X = some m.cls := findClass_of_methodNamed B.named
  have hlocks := B.notSynchronized
  have hl := lv_entry ([.ref h, .int tb_, .int a]) (n := 5) (Nat.le_of_ble_eq_true rfl)
  rw [lg_entry_eq]
  generalize (lg_sl ([.ref h, .int tb_, .int a]) ++ List.replicate (5 - (lg_sl ([.ref h, .int tb_, .int a])).length) Slot.unset).toArray = ls at hl ⊢
  have hl : lv_has ls 5 [(0, .ref h), (1, .int tb_), (2, .int a)] := hl
  subst hsz
  have hD := hD0.self (sz := s.heap.size)
  generalize hAe : va_A [(h, .inr (1, [.ref a1, .ref a2, .ref a3, .int n, .ref a4, .int k, .ref a5])), (a1, .inl (cJ, 500, .inr (.inl ab))), (a2, .inl (cJ, 500, .inr (.inl be))), (a3, .inl (cI, 500, .inl un)), (a5, .inl (cT, 4, .inr (.inr (.inr (.inr tf))))), (th, .inr (0, [.ref tx, .ref ty, .long tb, .int tc])), (tx, .inl (cJ, 16, .inr (.inl xs))), (ty, .inl (cJ, 16, .inr (.inl ys)))] s.heap.size = A at hD ⊢
  have hA : ∀ q : Nat, s.heap.size ≤ q → A q := fun q h => by rw [← hAe]; exact Or.inr h
  have hS : va_S A s.heap s.heap [] := va_S.rf
  have hP : va_P (dC, dI) classes [(h, .inr (1, [.ref a1, .ref a2, .ref a3, .int n, .ref a4, .int k, .ref a5])), (a1, .inl (cJ, 500, .inr (.inl ab))), (a2, .inl (cJ, 500, .inr (.inl be))), (a3, .inl (cI, 500, .inl un)), (a5, .inl (cT, 4, .inr (.inr (.inr (.inr tf))))), (th, .inr (0, [.ref tx, .ref ty, .long tb, .int tc])), (tx, .inl (cJ, 16, .inr (.inl xs))), (ty, .inl (cJ, 16, .inr (.inl ys)))] s.heap := hP
  have hD : va_D A [(h, .inr (1, [.ref a1, .ref a2, .ref a3, .int n, .ref a4, .int k, .ref a5])), (a1, .inl (cJ, 500, .inr (.inl ab))), (a2, .inl (cJ, 500, .inr (.inl be))), (a3, .inl (cI, 500, .inl un)), (a5, .inl (cT, 4, .inr (.inr (.inr (.inr tf))))), (th, .inr (0, [.ref tx, .ref ty, .long tb, .int tc])), (tx, .inl (cJ, 16, .inr (.inl xs))), (ty, .inl (cJ, 16, .inr (.inl ys)))] := hD
  skip
  refine lv_aload_n hx hb d_X_join_0 rfl (lv_at hl 0 rfl) ?_
  refine lv_iload_n hx hb d_X_join_1 rfl (lv_at hl 1 rfl) ?_
  have hPc := hP.sub (ws' := [(h, .inr (1, [.ref a1, .ref a2, .ref a3, .int n, .ref a4, .int k, .ref a5])), (a5, .inl (cT, 4, .inr (.inr (.inr (.inr tf)))))]) [0, 4] rfl
  refine W.callV (W.runV (As := [.int tb_]) (rest := []) ⟨hx, hb, hml, hown, hg⟩ (k_X_tableAt l dC dI cJ cI cT h a1 a2 a3 a4 a5 n k tf tb_) (q_V 1 hg wg_122 wg_120 wg_121 wg_2 wg_13 rfl rfl (by decide +kernel) ⟨Nat.le_of_ble_eq_true rfl, Nat.le_of_ble_eq_true rfl⟩) ⟨wd_blind, va_recv hK hPc (ci := 1) (q0 := 0) rfl rfl, wd_pre (as := .ref h :: [.int tb_]) hPc hK⟩ rfl rfl hl.1 rfl (lv_room (Nat.le_of_ble_eq_true rfl)) d_X_join_2 ⟨Nat.le_of_ble_eq_true rfl, Nat.le_of_ble_eq_true rfl⟩) ?_
  refine W.eq (g2 := F0 m 5 ls (.ref th :: [])) (by rw [hf] <;> rfl) ?_
  refine lv_astore_n (lv' := [(3, .ref th), (0, .ref h), (1, .int tb_), (2, .int a)]) hx hb d_X_join_5 rfl hl (by decide) rfl (fun ls hl => ?_)
  refine lv_aload_n hx hb d_X_join_6 rfl (lv_at hl 0 rfl) ?_
  refine lv_ifnull hx hb d_X_join_7 ?_
  refine lv_aload_n hx hb d_X_join_10 rfl (lv_at hl 1 rfl) ?_
  refine lv_iload_n hx hb d_X_join_11 rfl (lv_at hl 3 rfl) ?_
  have hPc := hP.sub (ws' := [(h, .inr (1, [.ref a1, .ref a2, .ref a3, .int n, .ref a4, .int k, .ref a5]))]) [0] rfl
  refine W.callV (W.runV (As := [.int a]) (rest := []) ⟨hx, hb, hml, hown, hg⟩ (k_X_isAmount l dC dI cJ cI cT h a1 a2 a3 a4 a5 n k a) (q_V 1 hg wg_66 wg_64 wg_65 wg_0 wg_13 rfl rfl (by decide +kernel) ⟨Nat.le_of_ble_eq_true rfl, Nat.le_of_ble_eq_true rfl⟩) ⟨wd_blind, va_recv hK hPc (ci := 1) (q0 := 0) rfl rfl, wd_pre (as := .ref h :: [.int a]) hPc hK⟩ rfl rfl hl.1 rfl (lv_room (Nat.le_of_ble_eq_true rfl)) d_X_join_12 ⟨Nat.le_of_ble_eq_true rfl, Nat.le_of_ble_eq_true rfl⟩) ?_
  refine W.eq (g2 := F0 m 15 ls (.int (f_X_isAmount a n) :: [])) rfl ?_
  refine lv_if_ne (tgt := 21) hx hb d_X_join_15 (by decide) (fun c_1 => ?_) (fun c_1 => ?_)
  · skip
    refine lv_aload_n hx hb d_X_join_21 rfl (lv_at hl 0 rfl) ?_
    refine va_getN (D := (dC, dI)) (ci := 0) (v := .int tc) (C := R_T) (T := F_T) (N := 4) hx hb hg in_T hown hK hP 5 rfl rfl 3 (by decide) (va_Nw.use rfl (hN _ nw_4)) (fun _ h9 => h9) rfl d_X_join_22 ?_
    refine lv_if_ne (tgt := 30) hx hb d_X_join_25 (by decide) (fun c_2 => ?_) (fun c_2 => ?_)
    · skip
      refine lv_aload_n hx hb d_X_join_30 rfl (lv_at hl 0 rfl) ?_
      refine lv_aload_n hx hb d_X_join_31 rfl (lv_at hl 1 rfl) ?_
      refine va_get (D := (dC, dI)) (ci := 1) (v := .ref a1) (C := R_X) (T := F_X) (N := 7) hx hb hg in_X hown hK hP 0 rfl rfl 0 (by decide) (hg _ wg_46) (fun _ h9 => h9) rfl d_X_join_32 ?_
      refine lv_iload_n hx hb d_X_join_35 rfl (lv_at hl 3 rfl) ?_
      refine va_lald hx hb hK hP 1 0 rfl rfl (am_in c_1 hn) d_X_join_36 ?_
      refine lv_aload_n hx hb d_X_join_37 rfl (lv_at hl 1 rfl) ?_
      refine va_get (D := (dC, dI)) (ci := 1) (v := .ref a2) (C := R_X) (T := F_X) (N := 7) hx hb hg in_X hown hK hP 0 rfl rfl 1 (by decide) (hg _ wg_47) (fun _ h9 => h9) rfl d_X_join_38 ?_
      refine lv_iload_n hx hb d_X_join_41 rfl (lv_at hl 3 rfl) ?_
      refine va_lald hx hb hK hP 2 0 rfl rfl (am_in c_1 hn) d_X_join_42 ?_
      have hPc := hP.sub (ws' := [(th, .inr (0, [.ref tx, .ref ty, .long tb, .int tc])), (tx, .inl (cJ, 16, .inr (.inl xs)))]) [5, 6] rfl
      refine W.callV (va_Run.run (va_runVN (As := [.long (ab a.toNatClampNeg), .long (be a.toNatClampNeg)]) (rest := []) ⟨hx, hb, hml, hown, hg⟩ (k_T_firstNotBefore l dC dI cJ cI cT th tx ty tb tc xs (ab a.toNatClampNeg) (be a.toNatClampNeg) hc0 hc) ⟨q_N 2 hg wg_138 (hN _ nw_7) wg_14 rfl rfl (by decide +kernel) ⟨Nat.le_of_ble_eq_true rfl, Nat.le_of_ble_eq_true rfl⟩, hg _ wg_137, hg _ wg_5⟩ ⟨wd_blind, va_recv hK hPc (ci := 0) (q0 := 0) rfl rfl, wd_pre (as := .ref th :: [.long (ab a.toNatClampNeg), .long (be a.toNatClampNeg)]) hPc hK⟩ rfl rfl hl.1 rfl (lv_room (Nat.le_of_ble_eq_true rfl)) d_X_join_43 ⟨Nat.le_of_ble_eq_true rfl, Nat.le_of_ble_eq_true rfl⟩)) ?_
      refine W.eq (g2 := F0 m 46 ls (.int (f_T_firstNotBefore xs tb tc (ab a.toNatClampNeg) (be a.toNatClampNeg)) :: [])) rfl ?_
      refine lv_topi (fun v_3 ev_3 => ?_)
      refine lv_istore (lv' := [(4, .int v_3), (3, .ref th), (0, .ref h), (1, .int tb_), (2, .int a)]) hx hb d_X_join_46 hl (by decide) rfl (fun ls hl => ?_)
      refine lv_iload hx hb d_X_join_48 (lv_at hl 0 rfl) ?_
      refine lv_if_ne (tgt := 69) hx hb d_X_join_50 (by decide) (fun c_4 => ?_) (fun c_4 => ?_)
      · skip
        refine lv_iload hx hb d_X_join_69 (lv_at hl 0 rfl) ?_
        refine lv_aload_n hx hb d_X_join_71 rfl (lv_at hl 1 rfl) ?_
        refine va_getN (D := (dC, dI)) (ci := 0) (v := .int tc) (C := R_T) (T := F_T) (N := 4) hx hb hg in_T hown hK hP 5 rfl rfl 3 (by decide) (va_Nw.use rfl (hN _ nw_4)) (fun _ h9 => h9) rfl d_X_join_72 ?_
        refine lv_icmp_lt (tgt := 99) hx hb d_X_join_75 (by decide) (fun c_5 => ?_) (fun c_5 => ?_)
        · skip
          refine lv_aload_n hx hb d_X_join_99 rfl (lv_at hl 2 rfl) ?_
          refine lv_aload_n hx hb d_X_join_100 rfl (lv_at hl 1 rfl) ?_
          refine lv_iload hx hb d_X_join_101 (lv_at hl 0 rfl) ?_
          refine lv_iload_n hx hb d_X_join_103 rfl (lv_at hl 4 rfl) ?_
          have hv9 : 0 ≤ v_3.toInt ∧ v_3.toInt ≤ (16 : Nat) := by rw [ev_3]; exact fnb_in hc0 hc
          have hPc := hP.sub (ws' := [(h, .inr (1, [.ref a1, .ref a2, .ref a3, .int n, .ref a4, .int k, .ref a5])), (a1, .inl (cJ, 500, .inr (.inl ab))), (a2, .inl (cJ, 500, .inr (.inl be))), (a3, .inl (cI, 500, .inl un)), (th, .inr (0, [.ref tx, .ref ty, .long tb, .int tc])), (tx, .inl (cJ, 16, .inr (.inl xs))), (ty, .inl (cJ, 16, .inr (.inl ys)))]) [0, 1, 2, 3, 5, 6, 7] rfl
          have hDc := hD.sub (ws' := [(h, .inr (1, [.ref a1, .ref a2, .ref a3, .int n, .ref a4, .int k, .ref a5])), (a1, .inl (cJ, 500, .inr (.inl ab))), (a2, .inl (cJ, 500, .inr (.inl be))), (a3, .inl (cI, 500, .inl un)), (th, .inr (0, [.ref tx, .ref ty, .long tb, .int tc])), (tx, .inl (cJ, 16, .inr (.inl xs))), (ty, .inl (cJ, 16, .inr (.inl ys)))]) [0, 1, 2, 3, 5, 6, 7] (by decide) rfl
          have hFc := va_free (wc := [(h, .inr (1, [.ref a1, .ref a2, .ref a3, .int n, .ref a4, .int k, .ref a5])), (a1, .inl (cJ, 500, .inr (.inl ab))), (a2, .inl (cJ, 500, .inr (.inl be))), (a3, .inl (cI, 500, .inl un)), (th, .inr (0, [.ref tx, .ref ty, .long tb, .int tc])), (tx, .inl (cJ, 16, .inr (.inl xs))), (ty, .inl (cJ, 16, .inr (.inl ys)))]) hD hS hA [0, 1, 2, 3, 5, 6, 7] rfl
          refine va_calli (va_runV (As := [.ref th, .int v_3, .int a]) (rest := []) ⟨hx, hb, hml, hown, hg⟩ (k_X_keepBetween l dC dI cJ cI cT h a1 a2 a3 a4 a5 n k ab be un th tx ty tb tc xs ys v_3 a _ hn0 (am_in c_1 hn) (in_nn hv9.1 c_5 hc) (in_pred2 hv9.1 hv9.2 c_4)) (q_V 3 hg wg_141 wg_139 wg_140 wg_6 wg_13 rfl rfl (by decide +kernel) ⟨Nat.le_of_ble_eq_true rfl, Nat.le_of_ble_eq_true rfl⟩) ⟨and_blind wx_blind nwd_blind, va_recv hK hPc (ci := 1) (q0 := 0) rfl rfl, and_pre (wx_pre (as := .ref h :: [.ref th, .int v_3, .int a]) hPc hK hDc) (nwd_pre hN)⟩ rfl rfl hl.1 rfl (lv_room (Nat.le_of_ble_eq_true rfl)) d_X_join_104 ⟨Nat.le_of_ble_eq_true rfl, Nat.le_of_ble_eq_true rfl⟩) hS (fun q _ h => hFc q h) hFc (fun r_10 u t H1 locs ht hvm hw_11 hB hz1 hk1 hS => ?_)
          obtain ⟨ab_6, be_7, un_8, n_9⟩ := u
          obtain ⟨hP1, hK1, hD1⟩ := hB
          rw [ht] at hP1
          obtain ⟨hP, hD⟩ := va_join (wr := [(a5, .inl (cT, 4, .inr (.inr (.inr (.inr tf)))))]) (w1 := [(h, .inr (1, [.ref a1, .ref a2, .ref a3, .int n_9, .ref a4, .int k, .ref a5])), (a1, .inl (cJ, 500, .inr (.inl ab_6))), (a2, .inl (cJ, 500, .inr (.inl be_7))), (a3, .inl (cI, 500, .inl un_8)), (th, .inr (0, [.ref tx, .ref ty, .long tb, .int tc])), (tx, .inl (cJ, 16, .inr (.inl xs))), (ty, .inl (cJ, 16, .inr (.inl ys)))]) hP hD [0, 1, 2, 3, 5, 6, 7] [4] rfl rfl (by decide) (by decide) hk1 hFc hP1 hD1
          generalize H1 = H at hP hS ⊢
          have hP : va_P (dC, dI) classes [(a5, .inl (cT, 4, .inr (.inr (.inr (.inr tf))))), (h, .inr (1, [.ref a1, .ref a2, .ref a3, .int n_9, .ref a4, .int k, .ref a5])), (a1, .inl (cJ, 500, .inr (.inl ab_6))), (a2, .inl (cJ, 500, .inr (.inl be_7))), (a3, .inl (cI, 500, .inl un_8)), (th, .inr (0, [.ref tx, .ref ty, .long tb, .int tc])), (tx, .inl (cJ, 16, .inr (.inl xs))), (ty, .inl (cJ, 16, .inr (.inl ys)))] H := hP
          have hD : va_D A [(a5, .inl (cT, 4, .inr (.inr (.inr (.inr tf))))), (h, .inr (1, [.ref a1, .ref a2, .ref a3, .int n_9, .ref a4, .int k, .ref a5])), (a1, .inl (cJ, 500, .inr (.inl ab_6))), (a2, .inl (cJ, 500, .inr (.inl be_7))), (a3, .inl (cI, 500, .inl un_8)), (th, .inr (0, [.ref tx, .ref ty, .long tb, .int tc])), (tx, .inl (cJ, 16, .inr (.inl xs))), (ty, .inl (cJ, 16, .inr (.inl ys)))] := hD
          subst ev_3
          have hP9 := hP.sub (ws' := [(h, .inr (1, [.ref a1, .ref a2, .ref a3, .int n_9, .ref a4, .int k, .ref a5])), (a1, .inl (cJ, 500, .inr (.inl ab_6))), (a2, .inl (cJ, 500, .inr (.inl be_7))), (a3, .inl (cI, 500, .inl un_8)), (a5, .inl (cT, 4, .inr (.inr (.inr (.inr tf))))), (th, .inr (0, [.ref tx, .ref ty, .long tb, .int tc])), (tx, .inl (cJ, 16, .inr (.inl xs))), (ty, .inl (cJ, 16, .inr (.inl ys)))]) [1, 2, 3, 4, 0, 5, 6, 7] rfl
          have hD9 := hD.sub (ws' := [(h, .inr (1, [.ref a1, .ref a2, .ref a3, .int n_9, .ref a4, .int k, .ref a5])), (a1, .inl (cJ, 500, .inr (.inl ab_6))), (a2, .inl (cJ, 500, .inr (.inl be_7))), (a3, .inl (cI, 500, .inl un_8)), (a5, .inl (cT, 4, .inr (.inr (.inr (.inr tf))))), (th, .inr (0, [.ref tx, .ref ty, .long tb, .int tc])), (tx, .inl (cJ, 16, .inr (.inl xs))), (ty, .inl (cJ, 16, .inr (.inl ys)))]) [1, 2, 3, 4, 0, 5, 6, 7] (by decide) rfl
          have hz : (r_10, (ab_6, be_7, un_8, n_9)) = f_X_join ab be un n tb tc xs ys a := by unfold f_X_join; rw [if_neg c_1, if_neg c_2, if_neg c_4, if_pos c_5]; exact hw_11
          exact W.iret (v := r_10) hx hb hr (fun t ht hW => ⟨⟨r_10, (ab_6, be_7, un_8, n_9), rfl, hz, wb_of ht hW hP9 hK hD9⟩, hS.F ht⟩) hS.2.2 d_X_join_107
        · skip
          refine lv_aload_n hx hb d_X_join_78 rfl (lv_at hl 2 rfl) ?_
          refine lv_aload_n hx hb d_X_join_79 rfl (lv_at hl 1 rfl) ?_
          refine va_getN (D := (dC, dI)) (ci := 0) (v := .ref ty) (C := R_T) (T := F_T) (N := 4) hx hb hg in_T hown hK hP 5 rfl rfl 1 (by decide) (va_Nw.use rfl (hN _ nw_2)) (fun _ h9 => h9) rfl d_X_join_80 ?_
          refine lv_aload_n hx hb d_X_join_83 rfl (lv_at hl 1 rfl) ?_
          refine va_getN (D := (dC, dI)) (ci := 0) (v := .int tc) (C := R_T) (T := F_T) (N := 4) hx hb hg in_T hown hK hP 5 rfl rfl 3 (by decide) (va_Nw.use rfl (hN _ nw_4)) (fun _ h9 => h9) rfl d_X_join_84 ?_
          refine lv_iconst (v := 1) hx hb d_X_join_87 (by decide) ?_
          refine lv_isub hx hb d_X_join_88 ?_
          refine lv_topi (fun i_12 ei_12 => ?_)
          refine va_lald hx hb hK hP 7 0 rfl rfl (by rw [ei_12]; exact in_pred2 hc0 hc c_2) d_X_join_89 ?_
          refine lv_aload_n hx hb d_X_join_90 rfl (lv_at hl 1 rfl) ?_
          refine va_getN (D := (dC, dI)) (ci := 0) (v := .long tb) (C := R_T) (T := F_T) (N := 4) hx hb hg in_T hown hK hP 5 rfl rfl 2 (by decide) (va_Nw.use rfl (hN _ nw_3)) (fun _ h9 => h9) rfl d_X_join_91 ?_
          refine lv_iconst (v := 0) hx hb d_X_join_94 (by decide) ?_
          have hPc := hP.sub (ws' := [(h, .inr (1, [.ref a1, .ref a2, .ref a3, .int n, .ref a4, .int k, .ref a5])), (a1, .inl (cJ, 500, .inr (.inl ab))), (a2, .inl (cJ, 500, .inr (.inl be))), (a3, .inl (cI, 500, .inl un))]) [0, 1, 2, 3] rfl
          have hDc := hD.sub (ws' := [(h, .inr (1, [.ref a1, .ref a2, .ref a3, .int n, .ref a4, .int k, .ref a5])), (a1, .inl (cJ, 500, .inr (.inl ab))), (a2, .inl (cJ, 500, .inr (.inl be))), (a3, .inl (cI, 500, .inl un))]) [0, 1, 2, 3] (by decide) rfl
          have hFc := va_free (wc := [(h, .inr (1, [.ref a1, .ref a2, .ref a3, .int n, .ref a4, .int k, .ref a5])), (a1, .inl (cJ, 500, .inr (.inl ab))), (a2, .inl (cJ, 500, .inr (.inl be))), (a3, .inl (cI, 500, .inl un))]) hD hS hA [0, 1, 2, 3] rfl
          refine va_calli (va_runV (As := [.long (ys i_12.toNatClampNeg), .long tb, .int 0]) (rest := []) ⟨hx, hb, hml, hown, hg⟩ (k_X_keep l dC dI cJ cI cT h a1 a2 a3 a4 a5 n k ab be un (ys i_12.toNatClampNeg) tb 0 _ hn0) (q_V 3 hg wg_69 wg_67 wg_68 wg_1 wg_13 rfl rfl (by decide +kernel) ⟨Nat.le_of_ble_eq_true rfl, Nat.le_of_ble_eq_true rfl⟩) ⟨wx_blind, va_recv hK hPc (ci := 1) (q0 := 0) rfl rfl, wx_pre (as := .ref h :: [.long (ys i_12.toNatClampNeg), .long tb, .int 0]) hPc hK hDc⟩ rfl rfl hl.1 rfl (lv_room (Nat.le_of_ble_eq_true rfl)) d_X_join_95 ⟨Nat.le_of_ble_eq_true rfl, Nat.le_of_ble_eq_true rfl⟩) hS (fun q _ h => hFc q h) hFc (fun r_17 u t H1 locs ht hvm hw_18 hB hz1 hk1 hS => ?_)
          obtain ⟨ab_13, be_14, un_15, n_16⟩ := u
          obtain ⟨hP1, hK1, hD1⟩ := hB
          rw [ht] at hP1
          obtain ⟨hP, hD⟩ := va_join (wr := [(a5, .inl (cT, 4, .inr (.inr (.inr (.inr tf))))), (th, .inr (0, [.ref tx, .ref ty, .long tb, .int tc])), (tx, .inl (cJ, 16, .inr (.inl xs))), (ty, .inl (cJ, 16, .inr (.inl ys)))]) (w1 := [(h, .inr (1, [.ref a1, .ref a2, .ref a3, .int n_16, .ref a4, .int k, .ref a5])), (a1, .inl (cJ, 500, .inr (.inl ab_13))), (a2, .inl (cJ, 500, .inr (.inl be_14))), (a3, .inl (cI, 500, .inl un_15))]) hP hD [0, 1, 2, 3] [4, 5, 6, 7] rfl rfl (by decide) (by decide) hk1 hFc hP1 hD1
          generalize H1 = H at hP hS ⊢
          have hP : va_P (dC, dI) classes [(a5, .inl (cT, 4, .inr (.inr (.inr (.inr tf))))), (th, .inr (0, [.ref tx, .ref ty, .long tb, .int tc])), (tx, .inl (cJ, 16, .inr (.inl xs))), (ty, .inl (cJ, 16, .inr (.inl ys))), (h, .inr (1, [.ref a1, .ref a2, .ref a3, .int n_16, .ref a4, .int k, .ref a5])), (a1, .inl (cJ, 500, .inr (.inl ab_13))), (a2, .inl (cJ, 500, .inr (.inl be_14))), (a3, .inl (cI, 500, .inl un_15))] H := hP
          have hD : va_D A [(a5, .inl (cT, 4, .inr (.inr (.inr (.inr tf))))), (th, .inr (0, [.ref tx, .ref ty, .long tb, .int tc])), (tx, .inl (cJ, 16, .inr (.inl xs))), (ty, .inl (cJ, 16, .inr (.inl ys))), (h, .inr (1, [.ref a1, .ref a2, .ref a3, .int n_16, .ref a4, .int k, .ref a5])), (a1, .inl (cJ, 500, .inr (.inl ab_13))), (a2, .inl (cJ, 500, .inr (.inl be_14))), (a3, .inl (cI, 500, .inl un_15))] := hD
          subst ei_12
          subst ev_3
          have hP9 := hP.sub (ws' := [(h, .inr (1, [.ref a1, .ref a2, .ref a3, .int n_16, .ref a4, .int k, .ref a5])), (a1, .inl (cJ, 500, .inr (.inl ab_13))), (a2, .inl (cJ, 500, .inr (.inl be_14))), (a3, .inl (cI, 500, .inl un_15)), (a5, .inl (cT, 4, .inr (.inr (.inr (.inr tf))))), (th, .inr (0, [.ref tx, .ref ty, .long tb, .int tc])), (tx, .inl (cJ, 16, .inr (.inl xs))), (ty, .inl (cJ, 16, .inr (.inl ys)))]) [4, 5, 6, 7, 0, 1, 2, 3] rfl
          have hD9 := hD.sub (ws' := [(h, .inr (1, [.ref a1, .ref a2, .ref a3, .int n_16, .ref a4, .int k, .ref a5])), (a1, .inl (cJ, 500, .inr (.inl ab_13))), (a2, .inl (cJ, 500, .inr (.inl be_14))), (a3, .inl (cI, 500, .inl un_15)), (a5, .inl (cT, 4, .inr (.inr (.inr (.inr tf))))), (th, .inr (0, [.ref tx, .ref ty, .long tb, .int tc])), (tx, .inl (cJ, 16, .inr (.inl xs))), (ty, .inl (cJ, 16, .inr (.inl ys)))]) [4, 5, 6, 7, 0, 1, 2, 3] (by decide) rfl
          have hz : (r_17, (ab_13, be_14, un_15, n_16)) = f_X_join ab be un n tb tc xs ys a := by unfold f_X_join; rw [if_neg c_1, if_neg c_2, if_neg c_4, if_neg c_5]; exact hw_18
          exact W.iret (v := r_17) hx hb hr (fun t ht hW => ⟨⟨r_17, (ab_13, be_14, un_15, n_16), rfl, hz, wb_of ht hW hP9 hK hD9⟩, hS.F ht⟩) hS.2.2 d_X_join_98
      · skip
        refine lv_aload_n hx hb d_X_join_53 rfl (lv_at hl 2 rfl) ?_
        refine lv_aload_n hx hb d_X_join_54 rfl (lv_at hl 1 rfl) ?_
        refine va_getN (D := (dC, dI)) (ci := 0) (v := .ref ty) (C := R_T) (T := F_T) (N := 4) hx hb hg in_T hown hK hP 5 rfl rfl 1 (by decide) (va_Nw.use rfl (hN _ nw_2)) (fun _ h9 => h9) rfl d_X_join_55 ?_
        refine lv_iconst (v := 0) hx hb d_X_join_58 (by decide) ?_
        refine va_lald hx hb hK hP 7 0 rfl rfl (by unfold vp_in; decide) d_X_join_59 ?_
        refine lv_aload_n hx hb d_X_join_60 rfl (lv_at hl 1 rfl) ?_
        refine va_getN (D := (dC, dI)) (ci := 0) (v := .long tb) (C := R_T) (T := F_T) (N := 4) hx hb hg in_T hown hK hP 5 rfl rfl 2 (by decide) (va_Nw.use rfl (hN _ nw_3)) (fun _ h9 => h9) rfl d_X_join_61 ?_
        refine lv_iconst (v := 0) hx hb d_X_join_64 (by decide) ?_
        have hPc := hP.sub (ws' := [(h, .inr (1, [.ref a1, .ref a2, .ref a3, .int n, .ref a4, .int k, .ref a5])), (a1, .inl (cJ, 500, .inr (.inl ab))), (a2, .inl (cJ, 500, .inr (.inl be))), (a3, .inl (cI, 500, .inl un))]) [0, 1, 2, 3] rfl
        have hDc := hD.sub (ws' := [(h, .inr (1, [.ref a1, .ref a2, .ref a3, .int n, .ref a4, .int k, .ref a5])), (a1, .inl (cJ, 500, .inr (.inl ab))), (a2, .inl (cJ, 500, .inr (.inl be))), (a3, .inl (cI, 500, .inl un))]) [0, 1, 2, 3] (by decide) rfl
        have hFc := va_free (wc := [(h, .inr (1, [.ref a1, .ref a2, .ref a3, .int n, .ref a4, .int k, .ref a5])), (a1, .inl (cJ, 500, .inr (.inl ab))), (a2, .inl (cJ, 500, .inr (.inl be))), (a3, .inl (cI, 500, .inl un))]) hD hS hA [0, 1, 2, 3] rfl
        refine va_calli (va_runV (As := [.long (ys (0 : Int32).toNatClampNeg), .long tb, .int 0]) (rest := []) ⟨hx, hb, hml, hown, hg⟩ (k_X_keep l dC dI cJ cI cT h a1 a2 a3 a4 a5 n k ab be un (ys (0 : Int32).toNatClampNeg) tb 0 _ hn0) (q_V 3 hg wg_69 wg_67 wg_68 wg_1 wg_13 rfl rfl (by decide +kernel) ⟨Nat.le_of_ble_eq_true rfl, Nat.le_of_ble_eq_true rfl⟩) ⟨wx_blind, va_recv hK hPc (ci := 1) (q0 := 0) rfl rfl, wx_pre (as := .ref h :: [.long (ys (0 : Int32).toNatClampNeg), .long tb, .int 0]) hPc hK hDc⟩ rfl rfl hl.1 rfl (lv_room (Nat.le_of_ble_eq_true rfl)) d_X_join_65 ⟨Nat.le_of_ble_eq_true rfl, Nat.le_of_ble_eq_true rfl⟩) hS (fun q _ h => hFc q h) hFc (fun r_23 u t H1 locs ht hvm hw_24 hB hz1 hk1 hS => ?_)
        obtain ⟨ab_19, be_20, un_21, n_22⟩ := u
        obtain ⟨hP1, hK1, hD1⟩ := hB
        rw [ht] at hP1
        obtain ⟨hP, hD⟩ := va_join (wr := [(a5, .inl (cT, 4, .inr (.inr (.inr (.inr tf))))), (th, .inr (0, [.ref tx, .ref ty, .long tb, .int tc])), (tx, .inl (cJ, 16, .inr (.inl xs))), (ty, .inl (cJ, 16, .inr (.inl ys)))]) (w1 := [(h, .inr (1, [.ref a1, .ref a2, .ref a3, .int n_22, .ref a4, .int k, .ref a5])), (a1, .inl (cJ, 500, .inr (.inl ab_19))), (a2, .inl (cJ, 500, .inr (.inl be_20))), (a3, .inl (cI, 500, .inl un_21))]) hP hD [0, 1, 2, 3] [4, 5, 6, 7] rfl rfl (by decide) (by decide) hk1 hFc hP1 hD1
        generalize H1 = H at hP hS ⊢
        have hP : va_P (dC, dI) classes [(a5, .inl (cT, 4, .inr (.inr (.inr (.inr tf))))), (th, .inr (0, [.ref tx, .ref ty, .long tb, .int tc])), (tx, .inl (cJ, 16, .inr (.inl xs))), (ty, .inl (cJ, 16, .inr (.inl ys))), (h, .inr (1, [.ref a1, .ref a2, .ref a3, .int n_22, .ref a4, .int k, .ref a5])), (a1, .inl (cJ, 500, .inr (.inl ab_19))), (a2, .inl (cJ, 500, .inr (.inl be_20))), (a3, .inl (cI, 500, .inl un_21))] H := hP
        have hD : va_D A [(a5, .inl (cT, 4, .inr (.inr (.inr (.inr tf))))), (th, .inr (0, [.ref tx, .ref ty, .long tb, .int tc])), (tx, .inl (cJ, 16, .inr (.inl xs))), (ty, .inl (cJ, 16, .inr (.inl ys))), (h, .inr (1, [.ref a1, .ref a2, .ref a3, .int n_22, .ref a4, .int k, .ref a5])), (a1, .inl (cJ, 500, .inr (.inl ab_19))), (a2, .inl (cJ, 500, .inr (.inl be_20))), (a3, .inl (cI, 500, .inl un_21))] := hD
        subst ev_3
        have hP9 := hP.sub (ws' := [(h, .inr (1, [.ref a1, .ref a2, .ref a3, .int n_22, .ref a4, .int k, .ref a5])), (a1, .inl (cJ, 500, .inr (.inl ab_19))), (a2, .inl (cJ, 500, .inr (.inl be_20))), (a3, .inl (cI, 500, .inl un_21)), (a5, .inl (cT, 4, .inr (.inr (.inr (.inr tf))))), (th, .inr (0, [.ref tx, .ref ty, .long tb, .int tc])), (tx, .inl (cJ, 16, .inr (.inl xs))), (ty, .inl (cJ, 16, .inr (.inl ys)))]) [4, 5, 6, 7, 0, 1, 2, 3] rfl
        have hD9 := hD.sub (ws' := [(h, .inr (1, [.ref a1, .ref a2, .ref a3, .int n_22, .ref a4, .int k, .ref a5])), (a1, .inl (cJ, 500, .inr (.inl ab_19))), (a2, .inl (cJ, 500, .inr (.inl be_20))), (a3, .inl (cI, 500, .inl un_21)), (a5, .inl (cT, 4, .inr (.inr (.inr (.inr tf))))), (th, .inr (0, [.ref tx, .ref ty, .long tb, .int tc])), (tx, .inl (cJ, 16, .inr (.inl xs))), (ty, .inl (cJ, 16, .inr (.inl ys)))]) [4, 5, 6, 7, 0, 1, 2, 3] (by decide) rfl
        have hz : (r_23, (ab_19, be_20, un_21, n_22)) = f_X_join ab be un n tb tc xs ys a := by unfold f_X_join; rw [if_neg c_1, if_neg c_2, if_pos c_4]; exact hw_24
        exact W.iret (v := r_23) hx hb hr (fun t ht hW => ⟨⟨r_23, (ab_19, be_20, un_21, n_22), rfl, hz, wb_of ht hW hP9 hK hD9⟩, hS.F ht⟩) hS.2.2 d_X_join_68
    · skip
      refine lv_iconst (v := (-1)) hx hb d_X_join_28 (by decide) ?_
      have hP9 := hP.sub (ws' := [(h, .inr (1, [.ref a1, .ref a2, .ref a3, .int n, .ref a4, .int k, .ref a5])), (a1, .inl (cJ, 500, .inr (.inl ab))), (a2, .inl (cJ, 500, .inr (.inl be))), (a3, .inl (cI, 500, .inl un)), (a5, .inl (cT, 4, .inr (.inr (.inr (.inr tf))))), (th, .inr (0, [.ref tx, .ref ty, .long tb, .int tc])), (tx, .inl (cJ, 16, .inr (.inl xs))), (ty, .inl (cJ, 16, .inr (.inl ys)))]) [0, 1, 2, 3, 4, 5, 6, 7] rfl
      have hD9 := hD.sub (ws' := [(h, .inr (1, [.ref a1, .ref a2, .ref a3, .int n, .ref a4, .int k, .ref a5])), (a1, .inl (cJ, 500, .inr (.inl ab))), (a2, .inl (cJ, 500, .inr (.inl be))), (a3, .inl (cI, 500, .inl un)), (a5, .inl (cT, 4, .inr (.inr (.inr (.inr tf))))), (th, .inr (0, [.ref tx, .ref ty, .long tb, .int tc])), (tx, .inl (cJ, 16, .inr (.inl xs))), (ty, .inl (cJ, 16, .inr (.inl ys)))]) [0, 1, 2, 3, 4, 5, 6, 7] (by decide) rfl
      have hz : ((-1), (ab, be, un, n)) = f_X_join ab be un n tb tc xs ys a := by unfold f_X_join; rw [if_neg c_1, if_pos c_2]
      exact W.iret (v := (-1)) hx hb hr (fun t ht hW => ⟨⟨(-1), (ab, be, un, n), rfl, hz, wb_of ht hW hP9 hK hD9⟩, hS.F ht⟩) hS.2.2 d_X_join_29
  · skip
    refine lv_bipush (v := (-3)) hx hb d_X_join_18 (by decide) ?_
    have hP9 := hP.sub (ws' := [(h, .inr (1, [.ref a1, .ref a2, .ref a3, .int n, .ref a4, .int k, .ref a5])), (a1, .inl (cJ, 500, .inr (.inl ab))), (a2, .inl (cJ, 500, .inr (.inl be))), (a3, .inl (cI, 500, .inl un)), (a5, .inl (cT, 4, .inr (.inr (.inr (.inr tf))))), (th, .inr (0, [.ref tx, .ref ty, .long tb, .int tc])), (tx, .inl (cJ, 16, .inr (.inl xs))), (ty, .inl (cJ, 16, .inr (.inl ys)))]) [0, 1, 2, 3, 4, 5, 6, 7] rfl
    have hD9 := hD.sub (ws' := [(h, .inr (1, [.ref a1, .ref a2, .ref a3, .int n, .ref a4, .int k, .ref a5])), (a1, .inl (cJ, 500, .inr (.inl ab))), (a2, .inl (cJ, 500, .inr (.inl be))), (a3, .inl (cI, 500, .inl un)), (a5, .inl (cT, 4, .inr (.inr (.inr (.inr tf))))), (th, .inr (0, [.ref tx, .ref ty, .long tb, .int tc])), (tx, .inl (cJ, 16, .inr (.inl xs))), (ty, .inl (cJ, 16, .inr (.inl ys)))]) [0, 1, 2, 3, 4, 5, 6, 7] (by decide) rfl
    have hz : ((-3), (ab, be, un, n)) = f_X_join ab be un n tb tc xs ys a := by unfold f_X_join; rw [if_pos c_1]
    exact W.iret (v := (-3)) hx hb hr (fun t ht hW => ⟨⟨(-3), (ab, be, un, n), rfl, hz, wb_of ht hW hP9 hK hD9⟩, hS.F ht⟩) hS.2.2 d_X_join_20
set_option maxHeartbeats 4000000 in
set_option maxRecDepth 100000 in
theorem k_X_join_out (l : Launch) (dC : Nat → ClassId) (dI : Nat → Nat → Nat) (cJ cI cT : ClassId) (h a1 a2 a3 a4 a5 : Nat) (n k : Int32) (tf : Nat → Option Nat) (tb_ a : Int32) (hf : f_X_tableAt tf tb_ = none) : Met l y_X_join w_X_join ({ frames := 1, cells := 0, slots := 0, locals := 21 }) (va_Pc [.ref h, .int tb_, .int a] (wd dC dI cJ cI cT [(h, .inr (1, [.ref a1, .ref a2, .ref a3, .int n, .ref a4, .int k, .ref a5])), (a5, .inl (cT, 4, .inr (.inr (.inr (.inr tf)))))])) (k2_QcV (.int ((-3 : Int32)))) 0 0 (fun _ => False) := by
  refine Met.ofW (cc := c_X_join) (maxL := 5) (ret := (Option.some Jvm.ClassFile.FieldType.int)) (by decide) rfl ?_
  intro p e s m args below meth c s₁ B hml hv
  obtain ⟨rfl, hP, hK⟩ := hv
  have hx := B.exec
  have hb := B.bytes
  have hr := B.returns
  have hts := atoms_spec (ws := w_X_join) B.pre
  have hg : ∀ w ∈ WG, w.before _ s = true := fun w h => hts w (List.mem_cons_of_mem _ h)
  have hown : s.vm.findClass R_X = some m.cls := findClass_of_methodNamed B.named
  have hlocks := B.notSynchronized
  have hl := lv_entry ([.ref h, .int tb_, .int a]) (n := 5) (Nat.le_of_ble_eq_true rfl)
  rw [lg_entry_eq]
  generalize (lg_sl ([.ref h, .int tb_, .int a]) ++ List.replicate (5 - (lg_sl ([.ref h, .int tb_, .int a])).length) Slot.unset).toArray = ls at hl ⊢
  have hl : lv_has ls 5 [(0, .ref h), (1, .int tb_), (2, .int a)] := hl
  have hP : va_P (dC, dI) classes [(h, .inr (1, [.ref a1, .ref a2, .ref a3, .int n, .ref a4, .int k, .ref a5])), (a5, .inl (cT, 4, .inr (.inr (.inr (.inr tf)))))] s.heap := hP
  refine lv_aload_n hx hb d_X_join_0 rfl (lv_at hl 0 rfl) ?_
  refine lv_iload_n hx hb d_X_join_1 rfl (lv_at hl 1 rfl) ?_
  have hPc := hP.sub (ws' := [(h, .inr (1, [.ref a1, .ref a2, .ref a3, .int n, .ref a4, .int k, .ref a5])), (a5, .inl (cT, 4, .inr (.inr (.inr (.inr tf)))))]) [0, 1] rfl
  refine W.callV (W.runV (As := [.int tb_]) (rest := []) ⟨hx, hb, hml, hown, hg⟩ (k_X_tableAt l dC dI cJ cI cT h a1 a2 a3 a4 a5 n k tf tb_) (q_V 1 hg wg_122 wg_120 wg_121 wg_2 wg_13 rfl rfl (by decide +kernel) ⟨Nat.le_of_ble_eq_true rfl, Nat.le_of_ble_eq_true rfl⟩) ⟨wd_blind, va_recv hK hPc (ci := 1) (q0 := 0) rfl rfl, wd_pre (as := .ref h :: [.int tb_]) hPc hK⟩ rfl rfl hl.1 rfl (lv_room (Nat.le_of_ble_eq_true rfl)) d_X_join_2 ⟨Nat.le_of_ble_eq_true rfl, Nat.le_of_ble_eq_true rfl⟩) ?_
  refine W.eq (g2 := F0 m 5 ls (.null :: [])) (by rw [hf] <;> rfl) ?_
  refine lv_astore_nN (lv' := [(3, .null), (0, .ref h), (1, .int tb_), (2, .int a)]) hx hb d_X_join_5 rfl hl (by decide) rfl (fun ls hl => ?_)
  refine lv_aload_nN hx hb d_X_join_6 rfl (lv_at hl 0 rfl) ?_
  refine lv_ifnullN (tgt := 18) hx hb d_X_join_7 (by decide) ?_
  refine lv_bipush (v := (-3)) hx hb d_X_join_18 (by decide) ?_
  exact W.iret hx hb hr (fun t ht _ => ⟨rfl, ht⟩) (fun _ h => by cases h) d_X_join_20
def f_X_told (ab be : Nat → Int64) (un : Nat → Int32) (n k tc a wh : Int32) : Int64 := if wh = 0 then if (f_X_isAmount a n) = 0 then (-9) else (ab a.toNatClampNeg) else if wh = 1 then if (f_X_isAmount a n) = 0 then (-9) else (be a.toNatClampNeg) else if wh = 2 then if (f_X_isAmount a n) = 0 then (-9) else ((un a.toNatClampNeg).toInt64) else if wh = 3 then n.toInt64 else if wh = 4 then k.toInt64 else if wh = 5 then tc.toInt64 else (-9)
set_option maxHeartbeats 4000000 in
set_option maxRecDepth 100000 in
theorem k_X_told (l : Launch) (dC : Nat → ClassId) (dI : Nat → Nat → Nat) (cJ cI cT : ClassId) (h a1 a2 a3 a4 a5 : Nat) (n k : Int32) (ab be : Nat → Int64) (un : Nat → Int32) (tf : Nat → Option Nat) (th tx ty : Nat) (tb : Int64) (tc a wh : Int32) (hn : n.toInt ≤ (500 : Nat)) (hf : f_X_tableAt tf a = some th) : Met l y_X_told w_X_told ({ frames := 1, cells := 0, slots := 0, locals := 21 }) (va_Pc [.ref h, .int a, .int wh] (fun U => wd dC dI cJ cI cT [(h, .inr (1, [.ref a1, .ref a2, .ref a3, .int n, .ref a4, .int k, .ref a5])), (a1, .inl (cJ, 500, .inr (.inl ab))), (a2, .inl (cJ, 500, .inr (.inl be))), (a3, .inl (cI, 500, .inl un)), (a5, .inl (cT, 4, .inr (.inr (.inr (.inr tf))))), (th, .inr (0, [.ref tx, .ref ty, .long tb, .int tc]))] U ∧ nwd U)) (k2_QcV (.long (f_X_told ab be un n k tc a wh))) 0 0 (fun _ => False) := by
  refine Met.ofW (cc := c_X_told) (maxL := 4) (ret := (Option.some Jvm.ClassFile.FieldType.long)) (by decide) rfl ?_
  intro p e s m args below meth c s₁ B hml hv
  obtain ⟨rfl, ⟨hP, hK⟩, hN⟩ := hv
  have hx := B.exec
  have hb := B.bytes
  have hr := B.returns
  have hts := atoms_spec (ws := w_X_told) B.pre
  have hg : ∀ w ∈ WG, w.before _ s = true := fun w h => hts w (List.mem_cons_of_mem _ h)
  have hown : s.vm.findClass R_X = some m.cls := findClass_of_methodNamed B.named
  have hlocks := B.notSynchronized
  have hl := lv_entry ([.ref h, .int a, .int wh]) (n := 4) (Nat.le_of_ble_eq_true rfl)
  rw [lg_entry_eq]
  generalize (lg_sl ([.ref h, .int a, .int wh]) ++ List.replicate (4 - (lg_sl ([.ref h, .int a, .int wh])).length) Slot.unset).toArray = ls at hl ⊢
  have hl : lv_has ls 4 [(0, .ref h), (1, .int a), (2, .int wh)] := hl
  have hP : va_P (dC, dI) classes [(h, .inr (1, [.ref a1, .ref a2, .ref a3, .int n, .ref a4, .int k, .ref a5])), (a1, .inl (cJ, 500, .inr (.inl ab))), (a2, .inl (cJ, 500, .inr (.inl be))), (a3, .inl (cI, 500, .inl un)), (a5, .inl (cT, 4, .inr (.inr (.inr (.inr tf))))), (th, .inr (0, [.ref tx, .ref ty, .long tb, .int tc]))] s.heap := hP
  refine lv_iload_n hx hb d_X_told_0 rfl (lv_at hl 2 rfl) ?_
  by_cases c_1 : wh = 0
  · skip
    refine lv_tableIn (off := 39) (tgt := 40) hx hb d_X_told_1 (by rw [c_1]; decide) (by rw [c_1]; decide) (by rw [c_1]; rfl) (by decide) ?_
    refine lv_aload_n hx hb d_X_told_40 rfl (lv_at hl 0 rfl) ?_
    refine lv_iload_n hx hb d_X_told_41 rfl (lv_at hl 1 rfl) ?_
    have hPc := hP.sub (ws' := [(h, .inr (1, [.ref a1, .ref a2, .ref a3, .int n, .ref a4, .int k, .ref a5]))]) [0] rfl
    refine W.callV (W.runV (As := [.int a]) (rest := []) ⟨hx, hb, hml, hown, hg⟩ (k_X_isAmount l dC dI cJ cI cT h a1 a2 a3 a4 a5 n k a) (q_V 1 hg wg_66 wg_64 wg_65 wg_0 wg_13 rfl rfl (by decide +kernel) ⟨Nat.le_of_ble_eq_true rfl, Nat.le_of_ble_eq_true rfl⟩) ⟨wd_blind, va_recv hK hPc (ci := 1) (q0 := 0) rfl rfl, wd_pre (as := .ref h :: [.int a]) hPc hK⟩ rfl rfl hl.1 rfl (lv_room (Nat.le_of_ble_eq_true rfl)) d_X_told_42 ⟨Nat.le_of_ble_eq_true rfl, Nat.le_of_ble_eq_true rfl⟩) ?_
    refine W.eq (g2 := F0 m 45 ls (.int (f_X_isAmount a n) :: [])) rfl ?_
    refine lv_if_eq (tgt := 57) hx hb d_X_told_45 (by decide) (fun c_2 => ?_) (fun c_2 => ?_)
    · skip
      refine lv_ldc2 (v := (-9)) hx hb hown (hg _ wg_162) d_X_told_57 ?_
      have hz : f_X_told ab be un n k tc a wh = (-9) := by unfold f_X_told; rw [if_pos c_1, if_pos c_2]
      exact W.lret hx hb hr (fun t ht _ => ⟨by rw [hz], ht⟩) (fun _ h => by cases h) d_X_told_60
    · skip
      refine lv_aload_n hx hb d_X_told_48 rfl (lv_at hl 0 rfl) ?_
      refine va_get (D := (dC, dI)) (ci := 1) (v := .ref a1) (C := R_X) (T := F_X) (N := 7) hx hb hg in_X hown hK hP 0 rfl rfl 0 (by decide) (hg _ wg_46) (fun _ h9 => h9) rfl d_X_told_49 ?_
      refine lv_iload_n hx hb d_X_told_52 rfl (lv_at hl 1 rfl) ?_
      refine va_lald hx hb hK hP 1 0 rfl rfl (am_in c_2 hn) d_X_told_53 ?_
      refine lv_goto (tgt := 60) hx hb d_X_told_54 (by decide) ?_
      have hz : f_X_told ab be un n k tc a wh = ab a.toNatClampNeg := by unfold f_X_told; rw [if_pos c_1, if_neg c_2]
      exact W.lret hx hb hr (fun t ht _ => ⟨by rw [hz], ht⟩) (fun _ h => by cases h) d_X_told_60
  · skip
    by_cases c_3 : wh = 1
    · skip
      refine lv_tableIn (off := 60) (tgt := 61) hx hb d_X_told_1 (by rw [c_3]; decide) (by rw [c_3]; decide) (by rw [c_3]; rfl) (by decide) ?_
      refine lv_aload_n hx hb d_X_told_61 rfl (lv_at hl 0 rfl) ?_
      refine lv_iload_n hx hb d_X_told_62 rfl (lv_at hl 1 rfl) ?_
      have hPc := hP.sub (ws' := [(h, .inr (1, [.ref a1, .ref a2, .ref a3, .int n, .ref a4, .int k, .ref a5]))]) [0] rfl
      refine W.callV (W.runV (As := [.int a]) (rest := []) ⟨hx, hb, hml, hown, hg⟩ (k_X_isAmount l dC dI cJ cI cT h a1 a2 a3 a4 a5 n k a) (q_V 1 hg wg_66 wg_64 wg_65 wg_0 wg_13 rfl rfl (by decide +kernel) ⟨Nat.le_of_ble_eq_true rfl, Nat.le_of_ble_eq_true rfl⟩) ⟨wd_blind, va_recv hK hPc (ci := 1) (q0 := 0) rfl rfl, wd_pre (as := .ref h :: [.int a]) hPc hK⟩ rfl rfl hl.1 rfl (lv_room (Nat.le_of_ble_eq_true rfl)) d_X_told_63 ⟨Nat.le_of_ble_eq_true rfl, Nat.le_of_ble_eq_true rfl⟩) ?_
      refine W.eq (g2 := F0 m 66 ls (.int (f_X_isAmount a n) :: [])) rfl ?_
      refine lv_if_eq (tgt := 78) hx hb d_X_told_66 (by decide) (fun c_4 => ?_) (fun c_4 => ?_)
      · skip
        refine lv_ldc2 (v := (-9)) hx hb hown (hg _ wg_162) d_X_told_78 ?_
        have hz : f_X_told ab be un n k tc a wh = (-9) := by unfold f_X_told; rw [if_neg c_1, if_pos c_3, if_pos c_4]
        exact W.lret hx hb hr (fun t ht _ => ⟨by rw [hz], ht⟩) (fun _ h => by cases h) d_X_told_81
      · skip
        refine lv_aload_n hx hb d_X_told_69 rfl (lv_at hl 0 rfl) ?_
        refine va_get (D := (dC, dI)) (ci := 1) (v := .ref a2) (C := R_X) (T := F_X) (N := 7) hx hb hg in_X hown hK hP 0 rfl rfl 1 (by decide) (hg _ wg_47) (fun _ h9 => h9) rfl d_X_told_70 ?_
        refine lv_iload_n hx hb d_X_told_73 rfl (lv_at hl 1 rfl) ?_
        refine va_lald hx hb hK hP 2 0 rfl rfl (am_in c_4 hn) d_X_told_74 ?_
        refine lv_goto (tgt := 81) hx hb d_X_told_75 (by decide) ?_
        have hz : f_X_told ab be un n k tc a wh = be a.toNatClampNeg := by unfold f_X_told; rw [if_neg c_1, if_pos c_3, if_neg c_4]
        exact W.lret hx hb hr (fun t ht _ => ⟨by rw [hz], ht⟩) (fun _ h => by cases h) d_X_told_81
    · skip
      by_cases c_5 : wh = 2
      · skip
        refine lv_tableIn (off := 81) (tgt := 82) hx hb d_X_told_1 (by rw [c_5]; decide) (by rw [c_5]; decide) (by rw [c_5]; rfl) (by decide) ?_
        refine lv_aload_n hx hb d_X_told_82 rfl (lv_at hl 0 rfl) ?_
        refine lv_iload_n hx hb d_X_told_83 rfl (lv_at hl 1 rfl) ?_
        have hPc := hP.sub (ws' := [(h, .inr (1, [.ref a1, .ref a2, .ref a3, .int n, .ref a4, .int k, .ref a5]))]) [0] rfl
        refine W.callV (W.runV (As := [.int a]) (rest := []) ⟨hx, hb, hml, hown, hg⟩ (k_X_isAmount l dC dI cJ cI cT h a1 a2 a3 a4 a5 n k a) (q_V 1 hg wg_66 wg_64 wg_65 wg_0 wg_13 rfl rfl (by decide +kernel) ⟨Nat.le_of_ble_eq_true rfl, Nat.le_of_ble_eq_true rfl⟩) ⟨wd_blind, va_recv hK hPc (ci := 1) (q0 := 0) rfl rfl, wd_pre (as := .ref h :: [.int a]) hPc hK⟩ rfl rfl hl.1 rfl (lv_room (Nat.le_of_ble_eq_true rfl)) d_X_told_84 ⟨Nat.le_of_ble_eq_true rfl, Nat.le_of_ble_eq_true rfl⟩) ?_
        refine W.eq (g2 := F0 m 87 ls (.int (f_X_isAmount a n) :: [])) rfl ?_
        refine lv_if_eq (tgt := 100) hx hb d_X_told_87 (by decide) (fun c_6 => ?_) (fun c_6 => ?_)
        · skip
          refine lv_ldc2 (v := (-9)) hx hb hown (hg _ wg_162) d_X_told_100 ?_
          have hz : f_X_told ab be un n k tc a wh = (-9) := by unfold f_X_told; rw [if_neg c_1, if_neg c_3, if_pos c_5, if_pos c_6]
          exact W.lret hx hb hr (fun t ht _ => ⟨by rw [hz], ht⟩) (fun _ h => by cases h) d_X_told_103
        · skip
          refine lv_aload_n hx hb d_X_told_90 rfl (lv_at hl 0 rfl) ?_
          refine va_get (D := (dC, dI)) (ci := 1) (v := .ref a3) (C := R_X) (T := F_X) (N := 7) hx hb hg in_X hown hK hP 0 rfl rfl 2 (by decide) (hg _ wg_48) (fun _ h9 => h9) rfl d_X_told_91 ?_
          refine lv_iload_n hx hb d_X_told_94 rfl (lv_at hl 1 rfl) ?_
          refine va_iald hx hb hK hP 3 1 rfl rfl (am_in c_6 hn) d_X_told_95 ?_
          refine lv_i2l hx hb d_X_told_96 rfl ?_
          refine lv_goto (tgt := 103) hx hb d_X_told_97 (by decide) ?_
          have hz : f_X_told ab be un n k tc a wh = (un a.toNatClampNeg).toInt64 := by unfold f_X_told; rw [if_neg c_1, if_neg c_3, if_pos c_5, if_neg c_6]
          exact W.lret hx hb hr (fun t ht _ => ⟨by rw [hz], ht⟩) (fun _ h => by cases h) d_X_told_103
      · skip
        by_cases c_7 : wh = 3
        · skip
          refine lv_tableIn (off := 103) (tgt := 104) hx hb d_X_told_1 (by rw [c_7]; decide) (by rw [c_7]; decide) (by rw [c_7]; rfl) (by decide) ?_
          refine lv_aload_n hx hb d_X_told_104 rfl (lv_at hl 0 rfl) ?_
          refine va_get (D := (dC, dI)) (ci := 1) (v := .int n) (C := R_X) (T := F_X) (N := 7) hx hb hg in_X hown hK hP 0 rfl rfl 3 (by decide) (hg _ wg_49) (fun _ h9 => h9) rfl d_X_told_105 ?_
          refine lv_i2l hx hb d_X_told_108 rfl ?_
          have hz : f_X_told ab be un n k tc a wh = n.toInt64 := by unfold f_X_told; rw [if_neg c_1, if_neg c_3, if_neg c_5, if_pos c_7]
          exact W.lret hx hb hr (fun t ht _ => ⟨by rw [hz], ht⟩) (fun _ h => by cases h) d_X_told_109
        · skip
          by_cases c_8 : wh = 4
          · skip
            refine lv_tableIn (off := 109) (tgt := 110) hx hb d_X_told_1 (by rw [c_8]; decide) (by rw [c_8]; decide) (by rw [c_8]; rfl) (by decide) ?_
            refine lv_aload_n hx hb d_X_told_110 rfl (lv_at hl 0 rfl) ?_
            refine va_get (D := (dC, dI)) (ci := 1) (v := .int k) (C := R_X) (T := F_X) (N := 7) hx hb hg in_X hown hK hP 0 rfl rfl 5 (by decide) (hg _ wg_51) (fun _ h9 => h9) rfl d_X_told_111 ?_
            refine lv_i2l hx hb d_X_told_114 rfl ?_
            have hz : f_X_told ab be un n k tc a wh = k.toInt64 := by unfold f_X_told; rw [if_neg c_1, if_neg c_3, if_neg c_5, if_neg c_7, if_pos c_8]
            exact W.lret hx hb hr (fun t ht _ => ⟨by rw [hz], ht⟩) (fun _ h => by cases h) d_X_told_115
          · skip
            by_cases c_9 : wh = 5
            · skip
              refine lv_tableIn (off := 115) (tgt := 116) hx hb d_X_told_1 (by rw [c_9]; decide) (by rw [c_9]; decide) (by rw [c_9]; rfl) (by decide) ?_
              refine lv_aload_n hx hb d_X_told_116 rfl (lv_at hl 0 rfl) ?_
              refine lv_iload_n hx hb d_X_told_117 rfl (lv_at hl 1 rfl) ?_
              have hPc := hP.sub (ws' := [(h, .inr (1, [.ref a1, .ref a2, .ref a3, .int n, .ref a4, .int k, .ref a5])), (a5, .inl (cT, 4, .inr (.inr (.inr (.inr tf)))))]) [0, 4] rfl
              refine W.callV (W.runV (As := [.int a]) (rest := []) ⟨hx, hb, hml, hown, hg⟩ (k_X_tableAt l dC dI cJ cI cT h a1 a2 a3 a4 a5 n k tf a) (q_V 1 hg wg_122 wg_120 wg_121 wg_2 wg_13 rfl rfl (by decide +kernel) ⟨Nat.le_of_ble_eq_true rfl, Nat.le_of_ble_eq_true rfl⟩) ⟨wd_blind, va_recv hK hPc (ci := 1) (q0 := 0) rfl rfl, wd_pre (as := .ref h :: [.int a]) hPc hK⟩ rfl rfl hl.1 rfl (lv_room (Nat.le_of_ble_eq_true rfl)) d_X_told_118 ⟨Nat.le_of_ble_eq_true rfl, Nat.le_of_ble_eq_true rfl⟩) ?_
              refine W.eq (g2 := F0 m 121 ls (.ref th :: [])) (by rw [hf] <;> rfl) ?_
              refine lv_astore_n (lv' := [(3, .ref th), (0, .ref h), (1, .int a), (2, .int wh)]) hx hb d_X_told_121 rfl hl (by decide) rfl (fun ls hl => ?_)
              refine lv_aload_n hx hb d_X_told_122 rfl (lv_at hl 0 rfl) ?_
              refine lv_ifnonnull (tgt := 132) hx hb d_X_told_123 (by decide) ?_
              refine lv_aload_n hx hb d_X_told_132 rfl (lv_at hl 0 rfl) ?_
              refine va_getN (D := (dC, dI)) (ci := 0) (v := .int tc) (C := R_T) (T := F_T) (N := 4) hx hb hg in_T hown hK hP 5 rfl rfl 3 (by decide) (va_Nw.use rfl (hN _ nw_4)) (fun _ h9 => h9) rfl d_X_told_133 ?_
              refine lv_i2l hx hb d_X_told_136 rfl ?_
              have hz : f_X_told ab be un n k tc a wh = tc.toInt64 := by unfold f_X_told; rw [if_neg c_1, if_neg c_3, if_neg c_5, if_neg c_7, if_neg c_8, if_pos c_9]
              exact W.lret hx hb hr (fun t ht _ => ⟨by rw [hz], ht⟩) (fun _ h => by cases h) d_X_told_137
            · skip
              refine lv_tableOut (tgt := 138) hx hb d_X_told_1 (by have n0 := lv_neT (a := 0) c_1 rfl; have n1 := lv_neT (a := 1) c_3 rfl; have n2 := lv_neT (a := 2) c_5 rfl; have n3 := lv_neT (a := 3) c_7 rfl; have n4 := lv_neT (a := 4) c_8 rfl; have n5 := lv_neT (a := 5) c_9 rfl; omega) (by decide) ?_
              refine lv_ldc2 (v := (-9)) hx hb hown (hg _ wg_162) d_X_told_138 ?_
              have hz : f_X_told ab be un n k tc a wh = (-9) := by unfold f_X_told; rw [if_neg c_1, if_neg c_3, if_neg c_5, if_neg c_7, if_neg c_8, if_neg c_9]
              exact W.lret hx hb hr (fun t ht _ => ⟨by rw [hz], ht⟩) (fun _ h => by cases h) d_X_told_141
def f_X_told_out (ab be : Nat → Int64) (un : Nat → Int32) (n k a wh : Int32) : Int64 := if wh = 0 then if (f_X_isAmount a n) = 0 then (-9) else (ab a.toNatClampNeg) else if wh = 1 then if (f_X_isAmount a n) = 0 then (-9) else (be a.toNatClampNeg) else if wh = 2 then if (f_X_isAmount a n) = 0 then (-9) else ((un a.toNatClampNeg).toInt64) else if wh = 3 then n.toInt64 else if wh = 4 then k.toInt64 else if wh = 5 then (-9) else (-9)
set_option maxHeartbeats 4000000 in
set_option maxRecDepth 100000 in
theorem k_X_told_out (l : Launch) (dC : Nat → ClassId) (dI : Nat → Nat → Nat) (cJ cI cT : ClassId) (h a1 a2 a3 a4 a5 : Nat) (n k : Int32) (ab be : Nat → Int64) (un : Nat → Int32) (tf : Nat → Option Nat) (a wh : Int32) (hn : n.toInt ≤ (500 : Nat)) (hf : f_X_tableAt tf a = none) : Met l y_X_told w_X_told ({ frames := 1, cells := 0, slots := 0, locals := 21 }) (va_Pc [.ref h, .int a, .int wh] (wd dC dI cJ cI cT [(h, .inr (1, [.ref a1, .ref a2, .ref a3, .int n, .ref a4, .int k, .ref a5])), (a1, .inl (cJ, 500, .inr (.inl ab))), (a2, .inl (cJ, 500, .inr (.inl be))), (a3, .inl (cI, 500, .inl un)), (a5, .inl (cT, 4, .inr (.inr (.inr (.inr tf)))))])) (k2_QcV (.long (f_X_told_out ab be un n k a wh))) 0 0 (fun _ => False) := by
  refine Met.ofW (cc := c_X_told) (maxL := 4) (ret := (Option.some Jvm.ClassFile.FieldType.long)) (by decide) rfl ?_
  intro p e s m args below meth c s₁ B hml hv
  obtain ⟨rfl, hP, hK⟩ := hv
  have hx := B.exec
  have hb := B.bytes
  have hr := B.returns
  have hts := atoms_spec (ws := w_X_told) B.pre
  have hg : ∀ w ∈ WG, w.before _ s = true := fun w h => hts w (List.mem_cons_of_mem _ h)
  have hown : s.vm.findClass R_X = some m.cls := findClass_of_methodNamed B.named
  have hlocks := B.notSynchronized
  have hl := lv_entry ([.ref h, .int a, .int wh]) (n := 4) (Nat.le_of_ble_eq_true rfl)
  rw [lg_entry_eq]
  generalize (lg_sl ([.ref h, .int a, .int wh]) ++ List.replicate (4 - (lg_sl ([.ref h, .int a, .int wh])).length) Slot.unset).toArray = ls at hl ⊢
  have hl : lv_has ls 4 [(0, .ref h), (1, .int a), (2, .int wh)] := hl
  have hP : va_P (dC, dI) classes [(h, .inr (1, [.ref a1, .ref a2, .ref a3, .int n, .ref a4, .int k, .ref a5])), (a1, .inl (cJ, 500, .inr (.inl ab))), (a2, .inl (cJ, 500, .inr (.inl be))), (a3, .inl (cI, 500, .inl un)), (a5, .inl (cT, 4, .inr (.inr (.inr (.inr tf)))))] s.heap := hP
  refine lv_iload_n hx hb d_X_told_0 rfl (lv_at hl 2 rfl) ?_
  by_cases c_1 : wh = 0
  · skip
    refine lv_tableIn (off := 39) (tgt := 40) hx hb d_X_told_1 (by rw [c_1]; decide) (by rw [c_1]; decide) (by rw [c_1]; rfl) (by decide) ?_
    refine lv_aload_n hx hb d_X_told_40 rfl (lv_at hl 0 rfl) ?_
    refine lv_iload_n hx hb d_X_told_41 rfl (lv_at hl 1 rfl) ?_
    have hPc := hP.sub (ws' := [(h, .inr (1, [.ref a1, .ref a2, .ref a3, .int n, .ref a4, .int k, .ref a5]))]) [0] rfl
    refine W.callV (W.runV (As := [.int a]) (rest := []) ⟨hx, hb, hml, hown, hg⟩ (k_X_isAmount l dC dI cJ cI cT h a1 a2 a3 a4 a5 n k a) (q_V 1 hg wg_66 wg_64 wg_65 wg_0 wg_13 rfl rfl (by decide +kernel) ⟨Nat.le_of_ble_eq_true rfl, Nat.le_of_ble_eq_true rfl⟩) ⟨wd_blind, va_recv hK hPc (ci := 1) (q0 := 0) rfl rfl, wd_pre (as := .ref h :: [.int a]) hPc hK⟩ rfl rfl hl.1 rfl (lv_room (Nat.le_of_ble_eq_true rfl)) d_X_told_42 ⟨Nat.le_of_ble_eq_true rfl, Nat.le_of_ble_eq_true rfl⟩) ?_
    refine W.eq (g2 := F0 m 45 ls (.int (f_X_isAmount a n) :: [])) rfl ?_
    refine lv_if_eq (tgt := 57) hx hb d_X_told_45 (by decide) (fun c_2 => ?_) (fun c_2 => ?_)
    · skip
      refine lv_ldc2 (v := (-9)) hx hb hown (hg _ wg_162) d_X_told_57 ?_
      have hz : f_X_told_out ab be un n k a wh = (-9) := by unfold f_X_told_out; rw [if_pos c_1, if_pos c_2]
      exact W.lret hx hb hr (fun t ht _ => ⟨by rw [hz], ht⟩) (fun _ h => by cases h) d_X_told_60
    · skip
      refine lv_aload_n hx hb d_X_told_48 rfl (lv_at hl 0 rfl) ?_
      refine va_get (D := (dC, dI)) (ci := 1) (v := .ref a1) (C := R_X) (T := F_X) (N := 7) hx hb hg in_X hown hK hP 0 rfl rfl 0 (by decide) (hg _ wg_46) (fun _ h9 => h9) rfl d_X_told_49 ?_
      refine lv_iload_n hx hb d_X_told_52 rfl (lv_at hl 1 rfl) ?_
      refine va_lald hx hb hK hP 1 0 rfl rfl (am_in c_2 hn) d_X_told_53 ?_
      refine lv_goto (tgt := 60) hx hb d_X_told_54 (by decide) ?_
      have hz : f_X_told_out ab be un n k a wh = ab a.toNatClampNeg := by unfold f_X_told_out; rw [if_pos c_1, if_neg c_2]
      exact W.lret hx hb hr (fun t ht _ => ⟨by rw [hz], ht⟩) (fun _ h => by cases h) d_X_told_60
  · skip
    by_cases c_3 : wh = 1
    · skip
      refine lv_tableIn (off := 60) (tgt := 61) hx hb d_X_told_1 (by rw [c_3]; decide) (by rw [c_3]; decide) (by rw [c_3]; rfl) (by decide) ?_
      refine lv_aload_n hx hb d_X_told_61 rfl (lv_at hl 0 rfl) ?_
      refine lv_iload_n hx hb d_X_told_62 rfl (lv_at hl 1 rfl) ?_
      have hPc := hP.sub (ws' := [(h, .inr (1, [.ref a1, .ref a2, .ref a3, .int n, .ref a4, .int k, .ref a5]))]) [0] rfl
      refine W.callV (W.runV (As := [.int a]) (rest := []) ⟨hx, hb, hml, hown, hg⟩ (k_X_isAmount l dC dI cJ cI cT h a1 a2 a3 a4 a5 n k a) (q_V 1 hg wg_66 wg_64 wg_65 wg_0 wg_13 rfl rfl (by decide +kernel) ⟨Nat.le_of_ble_eq_true rfl, Nat.le_of_ble_eq_true rfl⟩) ⟨wd_blind, va_recv hK hPc (ci := 1) (q0 := 0) rfl rfl, wd_pre (as := .ref h :: [.int a]) hPc hK⟩ rfl rfl hl.1 rfl (lv_room (Nat.le_of_ble_eq_true rfl)) d_X_told_63 ⟨Nat.le_of_ble_eq_true rfl, Nat.le_of_ble_eq_true rfl⟩) ?_
      refine W.eq (g2 := F0 m 66 ls (.int (f_X_isAmount a n) :: [])) rfl ?_
      refine lv_if_eq (tgt := 78) hx hb d_X_told_66 (by decide) (fun c_4 => ?_) (fun c_4 => ?_)
      · skip
        refine lv_ldc2 (v := (-9)) hx hb hown (hg _ wg_162) d_X_told_78 ?_
        have hz : f_X_told_out ab be un n k a wh = (-9) := by unfold f_X_told_out; rw [if_neg c_1, if_pos c_3, if_pos c_4]
        exact W.lret hx hb hr (fun t ht _ => ⟨by rw [hz], ht⟩) (fun _ h => by cases h) d_X_told_81
      · skip
        refine lv_aload_n hx hb d_X_told_69 rfl (lv_at hl 0 rfl) ?_
        refine va_get (D := (dC, dI)) (ci := 1) (v := .ref a2) (C := R_X) (T := F_X) (N := 7) hx hb hg in_X hown hK hP 0 rfl rfl 1 (by decide) (hg _ wg_47) (fun _ h9 => h9) rfl d_X_told_70 ?_
        refine lv_iload_n hx hb d_X_told_73 rfl (lv_at hl 1 rfl) ?_
        refine va_lald hx hb hK hP 2 0 rfl rfl (am_in c_4 hn) d_X_told_74 ?_
        refine lv_goto (tgt := 81) hx hb d_X_told_75 (by decide) ?_
        have hz : f_X_told_out ab be un n k a wh = be a.toNatClampNeg := by unfold f_X_told_out; rw [if_neg c_1, if_pos c_3, if_neg c_4]
        exact W.lret hx hb hr (fun t ht _ => ⟨by rw [hz], ht⟩) (fun _ h => by cases h) d_X_told_81
    · skip
      by_cases c_5 : wh = 2
      · skip
        refine lv_tableIn (off := 81) (tgt := 82) hx hb d_X_told_1 (by rw [c_5]; decide) (by rw [c_5]; decide) (by rw [c_5]; rfl) (by decide) ?_
        refine lv_aload_n hx hb d_X_told_82 rfl (lv_at hl 0 rfl) ?_
        refine lv_iload_n hx hb d_X_told_83 rfl (lv_at hl 1 rfl) ?_
        have hPc := hP.sub (ws' := [(h, .inr (1, [.ref a1, .ref a2, .ref a3, .int n, .ref a4, .int k, .ref a5]))]) [0] rfl
        refine W.callV (W.runV (As := [.int a]) (rest := []) ⟨hx, hb, hml, hown, hg⟩ (k_X_isAmount l dC dI cJ cI cT h a1 a2 a3 a4 a5 n k a) (q_V 1 hg wg_66 wg_64 wg_65 wg_0 wg_13 rfl rfl (by decide +kernel) ⟨Nat.le_of_ble_eq_true rfl, Nat.le_of_ble_eq_true rfl⟩) ⟨wd_blind, va_recv hK hPc (ci := 1) (q0 := 0) rfl rfl, wd_pre (as := .ref h :: [.int a]) hPc hK⟩ rfl rfl hl.1 rfl (lv_room (Nat.le_of_ble_eq_true rfl)) d_X_told_84 ⟨Nat.le_of_ble_eq_true rfl, Nat.le_of_ble_eq_true rfl⟩) ?_
        refine W.eq (g2 := F0 m 87 ls (.int (f_X_isAmount a n) :: [])) rfl ?_
        refine lv_if_eq (tgt := 100) hx hb d_X_told_87 (by decide) (fun c_6 => ?_) (fun c_6 => ?_)
        · skip
          refine lv_ldc2 (v := (-9)) hx hb hown (hg _ wg_162) d_X_told_100 ?_
          have hz : f_X_told_out ab be un n k a wh = (-9) := by unfold f_X_told_out; rw [if_neg c_1, if_neg c_3, if_pos c_5, if_pos c_6]
          exact W.lret hx hb hr (fun t ht _ => ⟨by rw [hz], ht⟩) (fun _ h => by cases h) d_X_told_103
        · skip
          refine lv_aload_n hx hb d_X_told_90 rfl (lv_at hl 0 rfl) ?_
          refine va_get (D := (dC, dI)) (ci := 1) (v := .ref a3) (C := R_X) (T := F_X) (N := 7) hx hb hg in_X hown hK hP 0 rfl rfl 2 (by decide) (hg _ wg_48) (fun _ h9 => h9) rfl d_X_told_91 ?_
          refine lv_iload_n hx hb d_X_told_94 rfl (lv_at hl 1 rfl) ?_
          refine va_iald hx hb hK hP 3 1 rfl rfl (am_in c_6 hn) d_X_told_95 ?_
          refine lv_i2l hx hb d_X_told_96 rfl ?_
          refine lv_goto (tgt := 103) hx hb d_X_told_97 (by decide) ?_
          have hz : f_X_told_out ab be un n k a wh = (un a.toNatClampNeg).toInt64 := by unfold f_X_told_out; rw [if_neg c_1, if_neg c_3, if_pos c_5, if_neg c_6]
          exact W.lret hx hb hr (fun t ht _ => ⟨by rw [hz], ht⟩) (fun _ h => by cases h) d_X_told_103
      · skip
        by_cases c_7 : wh = 3
        · skip
          refine lv_tableIn (off := 103) (tgt := 104) hx hb d_X_told_1 (by rw [c_7]; decide) (by rw [c_7]; decide) (by rw [c_7]; rfl) (by decide) ?_
          refine lv_aload_n hx hb d_X_told_104 rfl (lv_at hl 0 rfl) ?_
          refine va_get (D := (dC, dI)) (ci := 1) (v := .int n) (C := R_X) (T := F_X) (N := 7) hx hb hg in_X hown hK hP 0 rfl rfl 3 (by decide) (hg _ wg_49) (fun _ h9 => h9) rfl d_X_told_105 ?_
          refine lv_i2l hx hb d_X_told_108 rfl ?_
          have hz : f_X_told_out ab be un n k a wh = n.toInt64 := by unfold f_X_told_out; rw [if_neg c_1, if_neg c_3, if_neg c_5, if_pos c_7]
          exact W.lret hx hb hr (fun t ht _ => ⟨by rw [hz], ht⟩) (fun _ h => by cases h) d_X_told_109
        · skip
          by_cases c_8 : wh = 4
          · skip
            refine lv_tableIn (off := 109) (tgt := 110) hx hb d_X_told_1 (by rw [c_8]; decide) (by rw [c_8]; decide) (by rw [c_8]; rfl) (by decide) ?_
            refine lv_aload_n hx hb d_X_told_110 rfl (lv_at hl 0 rfl) ?_
            refine va_get (D := (dC, dI)) (ci := 1) (v := .int k) (C := R_X) (T := F_X) (N := 7) hx hb hg in_X hown hK hP 0 rfl rfl 5 (by decide) (hg _ wg_51) (fun _ h9 => h9) rfl d_X_told_111 ?_
            refine lv_i2l hx hb d_X_told_114 rfl ?_
            have hz : f_X_told_out ab be un n k a wh = k.toInt64 := by unfold f_X_told_out; rw [if_neg c_1, if_neg c_3, if_neg c_5, if_neg c_7, if_pos c_8]
            exact W.lret hx hb hr (fun t ht _ => ⟨by rw [hz], ht⟩) (fun _ h => by cases h) d_X_told_115
          · skip
            by_cases c_9 : wh = 5
            · skip
              refine lv_tableIn (off := 115) (tgt := 116) hx hb d_X_told_1 (by rw [c_9]; decide) (by rw [c_9]; decide) (by rw [c_9]; rfl) (by decide) ?_
              refine lv_aload_n hx hb d_X_told_116 rfl (lv_at hl 0 rfl) ?_
              refine lv_iload_n hx hb d_X_told_117 rfl (lv_at hl 1 rfl) ?_
              have hPc := hP.sub (ws' := [(h, .inr (1, [.ref a1, .ref a2, .ref a3, .int n, .ref a4, .int k, .ref a5])), (a5, .inl (cT, 4, .inr (.inr (.inr (.inr tf)))))]) [0, 4] rfl
              refine W.callV (W.runV (As := [.int a]) (rest := []) ⟨hx, hb, hml, hown, hg⟩ (k_X_tableAt l dC dI cJ cI cT h a1 a2 a3 a4 a5 n k tf a) (q_V 1 hg wg_122 wg_120 wg_121 wg_2 wg_13 rfl rfl (by decide +kernel) ⟨Nat.le_of_ble_eq_true rfl, Nat.le_of_ble_eq_true rfl⟩) ⟨wd_blind, va_recv hK hPc (ci := 1) (q0 := 0) rfl rfl, wd_pre (as := .ref h :: [.int a]) hPc hK⟩ rfl rfl hl.1 rfl (lv_room (Nat.le_of_ble_eq_true rfl)) d_X_told_118 ⟨Nat.le_of_ble_eq_true rfl, Nat.le_of_ble_eq_true rfl⟩) ?_
              refine W.eq (g2 := F0 m 121 ls (.null :: [])) (by rw [hf] <;> rfl) ?_
              refine lv_astore_nN (lv' := [(3, .null), (0, .ref h), (1, .int a), (2, .int wh)]) hx hb d_X_told_121 rfl hl (by decide) rfl (fun ls hl => ?_)
              refine lv_aload_nN hx hb d_X_told_122 rfl (lv_at hl 0 rfl) ?_
              refine lv_ifnonnullN hx hb d_X_told_123 ?_
              refine lv_ldc2 (v := (-9)) hx hb hown (hg _ wg_162) d_X_told_126 ?_
              refine lv_goto (tgt := 137) hx hb d_X_told_129 (by decide) ?_
              have hz : f_X_told_out ab be un n k a wh = (-9) := by unfold f_X_told_out; rw [if_neg c_1, if_neg c_3, if_neg c_5, if_neg c_7, if_neg c_8, if_pos c_9]
              exact W.lret hx hb hr (fun t ht _ => ⟨by rw [hz], ht⟩) (fun _ h => by cases h) d_X_told_137
            · skip
              refine lv_tableOut (tgt := 138) hx hb d_X_told_1 (by have n0 := lv_neT (a := 0) c_1 rfl; have n1 := lv_neT (a := 1) c_3 rfl; have n2 := lv_neT (a := 2) c_5 rfl; have n3 := lv_neT (a := 3) c_7 rfl; have n4 := lv_neT (a := 4) c_8 rfl; have n5 := lv_neT (a := 5) c_9 rfl; omega) (by decide) ?_
              refine lv_ldc2 (v := (-9)) hx hb hown (hg _ wg_162) d_X_told_138 ?_
              have hz : f_X_told_out ab be un n k a wh = (-9) := by unfold f_X_told_out; rw [if_neg c_1, if_neg c_3, if_neg c_5, if_neg c_7, if_neg c_8, if_neg c_9]
              exact W.lret hx hb hr (fun t ht _ => ⟨by rw [hz], ht⟩) (fun _ h => by cases h) d_X_told_141
set_option maxHeartbeats 4000000 in
set_option maxRecDepth 100000 in
theorem k_X_clear (l : Launch) (dC : Nat → ClassId) (dI : Nat → Nat → Nat) (cJ cI cT : ClassId) (h a1 a2 a3 a4 a5 : Nat) (n k : Int32) (tf : Nat → Option Nat) (t0 t1 t2 t3 x0 x1 x2 x3 y0 y1 y2 y3 : Nat) (b0 b1 b2 b3 : Int64) (c0 c1 c2 c3 : Int32) (sz : Nat) (hf0 : f_X_tableAt tf 0 = some t0) (hf1 : f_X_tableAt tf 1 = some t1) (hf2 : f_X_tableAt tf 2 = some t2) (hf3 : f_X_tableAt tf 3 = some t3) : Met l y_X_clear w_X_clear ({ frames := 1, cells := 0, slots := 0, locals := 21 }) (va_Pc [.ref h] (fun U => wx dC dI cJ cI cT sz [(h, .inr (1, [.ref a1, .ref a2, .ref a3, .int n, .ref a4, .int k, .ref a5])), (a5, .inl (cT, 4, .inr (.inr (.inr (.inr tf))))), (t0, .inr (0, [.ref x0, .ref y0, .long b0, .int c0])), (t1, .inr (0, [.ref x1, .ref y1, .long b1, .int c1])), (t2, .inr (0, [.ref x2, .ref y2, .long b2, .int c2])), (t3, .inr (0, [.ref x3, .ref y3, .long b3, .int c3]))] U ∧ nwd U)) (va_Qv (fun (u : Unit) => u = ()) (fun u => wb dC dI cJ cI cT (va_A [(h, .inr (1, [.ref a1, .ref a2, .ref a3, .int n, .ref a4, .int k, .ref a5])), (a5, .inl (cT, 4, .inr (.inr (.inr (.inr tf))))), (t0, .inr (0, [.ref x0, .ref y0, .long b0, .int c0])), (t1, .inr (0, [.ref x1, .ref y1, .long b1, .int c1])), (t2, .inr (0, [.ref x2, .ref y2, .long b2, .int c2])), (t3, .inr (0, [.ref x3, .ref y3, .long b3, .int c3]))] sz) [(h, .inr (1, [.ref a1, .ref a2, .ref a3, .int 0, .ref a4, .int 0, .ref a5])), (a5, .inl (cT, 4, .inr (.inr (.inr (.inr tf))))), (t0, .inr (0, [.ref x0, .ref y0, .long b0, .int 0])), (t1, .inr (0, [.ref x1, .ref y1, .long b1, .int 0])), (t2, .inr (0, [.ref x2, .ref y2, .long b2, .int 0])), (t3, .inr (0, [.ref x3, .ref y3, .long b3, .int 0]))]) (va_A [(h, .inr (1, [.ref a1, .ref a2, .ref a3, .int n, .ref a4, .int k, .ref a5])), (a5, .inl (cT, 4, .inr (.inr (.inr (.inr tf))))), (t0, .inr (0, [.ref x0, .ref y0, .long b0, .int c0])), (t1, .inr (0, [.ref x1, .ref y1, .long b1, .int c1])), (t2, .inr (0, [.ref x2, .ref y2, .long b2, .int c2])), (t3, .inr (0, [.ref x3, .ref y3, .long b3, .int c3]))] sz)) 0 0 (va_A [(h, .inr (1, [.ref a1, .ref a2, .ref a3, .int n, .ref a4, .int k, .ref a5])), (a5, .inl (cT, 4, .inr (.inr (.inr (.inr tf))))), (t0, .inr (0, [.ref x0, .ref y0, .long b0, .int c0])), (t1, .inr (0, [.ref x1, .ref y1, .long b1, .int c1])), (t2, .inr (0, [.ref x2, .ref y2, .long b2, .int c2])), (t3, .inr (0, [.ref x3, .ref y3, .long b3, .int c3]))] sz) := by
  refine Met.ofW (cc := c_X_clear) (maxL := 3) (ret := (Option.none : Option Jvm.ClassFile.FieldType)) (by decide) rfl ?_
  intro p e s m args below meth c s₁ B hml hv
  obtain ⟨rfl, ⟨hsz, hP, hK, hD0⟩, hN⟩ := hv
  have hx := B.exec
  have hb := B.bytes
  have hr := B.returns
  have hts := atoms_spec (ws := w_X_clear) B.pre
  have hg : ∀ w ∈ WG, w.before _ s = true := fun w h => hts w (List.mem_cons_of_mem _ h)
  have hown : s.vm.findClass R_X = some m.cls := findClass_of_methodNamed B.named
  have hlocks := B.notSynchronized
  have hl := lv_entry ([.ref h]) (n := 3) (Nat.le_of_ble_eq_true rfl)
  rw [lg_entry_eq]
  generalize (lg_sl ([.ref h]) ++ List.replicate (3 - (lg_sl ([.ref h])).length) Slot.unset).toArray = ls at hl ⊢
  have hl : lv_has ls 3 [(0, .ref h)] := hl
  subst hsz
  have hD := hD0.self (sz := s.heap.size)
  generalize hAe : va_A [(h, .inr (1, [.ref a1, .ref a2, .ref a3, .int n, .ref a4, .int k, .ref a5])), (a5, .inl (cT, 4, .inr (.inr (.inr (.inr tf))))), (t0, .inr (0, [.ref x0, .ref y0, .long b0, .int c0])), (t1, .inr (0, [.ref x1, .ref y1, .long b1, .int c1])), (t2, .inr (0, [.ref x2, .ref y2, .long b2, .int c2])), (t3, .inr (0, [.ref x3, .ref y3, .long b3, .int c3]))] s.heap.size = A at hD ⊢
  have hA : ∀ q : Nat, s.heap.size ≤ q → A q := fun q h => by rw [← hAe]; exact Or.inr h
  have hS : va_S A s.heap s.heap [] := va_S.rf
  have hP : va_P (dC, dI) classes [(h, .inr (1, [.ref a1, .ref a2, .ref a3, .int n, .ref a4, .int k, .ref a5])), (a5, .inl (cT, 4, .inr (.inr (.inr (.inr tf))))), (t0, .inr (0, [.ref x0, .ref y0, .long b0, .int c0])), (t1, .inr (0, [.ref x1, .ref y1, .long b1, .int c1])), (t2, .inr (0, [.ref x2, .ref y2, .long b2, .int c2])), (t3, .inr (0, [.ref x3, .ref y3, .long b3, .int c3]))] s.heap := hP
  have hD : va_D A [(h, .inr (1, [.ref a1, .ref a2, .ref a3, .int n, .ref a4, .int k, .ref a5])), (a5, .inl (cT, 4, .inr (.inr (.inr (.inr tf))))), (t0, .inr (0, [.ref x0, .ref y0, .long b0, .int c0])), (t1, .inr (0, [.ref x1, .ref y1, .long b1, .int c1])), (t2, .inr (0, [.ref x2, .ref y2, .long b2, .int c2])), (t3, .inr (0, [.ref x3, .ref y3, .long b3, .int c3]))] := hD
  skip
  refine lv_aload_n hx hb d_X_clear_0 rfl (lv_at hl 0 rfl) ?_
  refine lv_iconst (v := 0) hx hb d_X_clear_1 (by decide) ?_
  refine va_put (D := (dC, dI)) (ci := 1) (v := .int 0) (ty := .int) (C := R_X) (T := F_X) (N := 7) hx hb hg in_X tt_X tt_X_ok nn_X hown hK hP hD hS 0 rfl rfl 3 (by decide) (hg _ wg_49) (fun _ h9 => h9) rfl (by decide +kernel) rfl rfl (Nat.le_of_ble_eq_true rfl) d_X_clear_2 (fun H locs hP hD hS => ?_)
  have hP : va_P (dC, dI) classes [(h, .inr (1, [.ref a1, .ref a2, .ref a3, .int 0, .ref a4, .int k, .ref a5])), (a5, .inl (cT, 4, .inr (.inr (.inr (.inr tf))))), (t0, .inr (0, [.ref x0, .ref y0, .long b0, .int c0])), (t1, .inr (0, [.ref x1, .ref y1, .long b1, .int c1])), (t2, .inr (0, [.ref x2, .ref y2, .long b2, .int c2])), (t3, .inr (0, [.ref x3, .ref y3, .long b3, .int c3]))] H := hP
  have hD : va_D A [(h, .inr (1, [.ref a1, .ref a2, .ref a3, .int 0, .ref a4, .int k, .ref a5])), (a5, .inl (cT, 4, .inr (.inr (.inr (.inr tf))))), (t0, .inr (0, [.ref x0, .ref y0, .long b0, .int c0])), (t1, .inr (0, [.ref x1, .ref y1, .long b1, .int c1])), (t2, .inr (0, [.ref x2, .ref y2, .long b2, .int c2])), (t3, .inr (0, [.ref x3, .ref y3, .long b3, .int c3]))] := hD
  refine lv_aload_n hx hb d_X_clear_5 rfl (lv_at hl 0 rfl) ?_
  refine lv_iconst (v := 0) hx hb d_X_clear_6 (by decide) ?_
  refine va_put (D := (dC, dI)) (ci := 1) (v := .int 0) (ty := .int) (C := R_X) (T := F_X) (N := 7) hx hb hg in_X tt_X tt_X_ok nn_X hown hK hP hD hS 0 rfl rfl 5 (by decide) (hg _ wg_51) (fun _ h9 => h9) rfl (by decide +kernel) rfl rfl (Nat.le_of_ble_eq_true rfl) d_X_clear_7 (fun H locs hP hD hS => ?_)
  have hP : va_P (dC, dI) classes [(h, .inr (1, [.ref a1, .ref a2, .ref a3, .int 0, .ref a4, .int 0, .ref a5])), (a5, .inl (cT, 4, .inr (.inr (.inr (.inr tf))))), (t0, .inr (0, [.ref x0, .ref y0, .long b0, .int c0])), (t1, .inr (0, [.ref x1, .ref y1, .long b1, .int c1])), (t2, .inr (0, [.ref x2, .ref y2, .long b2, .int c2])), (t3, .inr (0, [.ref x3, .ref y3, .long b3, .int c3]))] H := hP
  have hD : va_D A [(h, .inr (1, [.ref a1, .ref a2, .ref a3, .int 0, .ref a4, .int 0, .ref a5])), (a5, .inl (cT, 4, .inr (.inr (.inr (.inr tf))))), (t0, .inr (0, [.ref x0, .ref y0, .long b0, .int c0])), (t1, .inr (0, [.ref x1, .ref y1, .long b1, .int c1])), (t2, .inr (0, [.ref x2, .ref y2, .long b2, .int c2])), (t3, .inr (0, [.ref x3, .ref y3, .long b3, .int c3]))] := hD
  refine lv_iconst (v := 0) hx hb d_X_clear_10 (by decide) ?_
  refine lv_istore_n (lv' := [(1, .int 0), (0, .ref h)]) hx hb d_X_clear_11 rfl hl (by decide) rfl (fun ls hl => ?_)
  refine lv_iload_n hx hb d_X_clear_12 rfl (lv_at hl 0 rfl) ?_
  refine lv_iconst (v := 4) hx hb d_X_clear_13 (by decide) ?_
  refine lv_icmp_ge (tgt := 38) hx hb d_X_clear_14 (by decide) (fun c_1 => ?_) (fun c_1 => ?_)
  · skip
    exact absurd c_1 (by decide)
  · skip
    refine lv_aload_n hx hb d_X_clear_17 rfl (lv_at hl 1 rfl) ?_
    refine lv_iload_n hx hb d_X_clear_18 rfl (lv_at hl 0 rfl) ?_
    have hPc := hP.sub (ws' := [(h, .inr (1, [.ref a1, .ref a2, .ref a3, .int 0, .ref a4, .int 0, .ref a5])), (a5, .inl (cT, 4, .inr (.inr (.inr (.inr tf)))))]) [0, 1] rfl
    refine W.callV (W.runV (As := [.int 0]) (rest := []) ⟨hx, hb, hml, hown, hg⟩ (k_X_tableAt l dC dI cJ cI cT h a1 a2 a3 a4 a5 0 0 tf 0) (q_V 1 hg wg_122 wg_120 wg_121 wg_2 wg_13 rfl rfl (by decide +kernel) ⟨Nat.le_of_ble_eq_true rfl, Nat.le_of_ble_eq_true rfl⟩) ⟨wd_blind, va_recv hK hPc (ci := 1) (q0 := 0) rfl rfl, wd_pre (as := .ref h :: [.int 0]) hPc hK⟩ rfl rfl hl.1 rfl (lv_room (Nat.le_of_ble_eq_true rfl)) d_X_clear_19 ⟨Nat.le_of_ble_eq_true rfl, Nat.le_of_ble_eq_true rfl⟩) ?_
    refine W.eq (g2 := F0 m 22 ls (.ref t0 :: [])) (by rw [hf0] <;> rfl) ?_
    refine lv_astore_n (lv' := [(2, .ref t0), (1, .int 0), (0, .ref h)]) hx hb d_X_clear_22 rfl hl (by decide) rfl (fun ls hl => ?_)
    refine lv_aload_n hx hb d_X_clear_23 rfl (lv_at hl 0 rfl) ?_
    refine lv_ifnull hx hb d_X_clear_24 ?_
    refine lv_aload_n hx hb d_X_clear_27 rfl (lv_at hl 0 rfl) ?_
    refine lv_iconst (v := 0) hx hb d_X_clear_28 (by decide) ?_
    refine va_putN (D := (dC, dI)) (ci := 0) (v := .int 0) (ty := .int) (C := R_T) (T := F_T) (N := 4) hx hb hg in_T tt_T tt_T_ok nn_T hown hK hP hD hS 2 rfl rfl 3 (by decide) (va_Nw.use rfl (hN _ nw_4)) (fun _ h9 => h9) rfl (by decide +kernel) rfl rfl (Nat.le_of_ble_eq_true rfl) d_X_clear_29 (fun H locs hP hD hS => ?_)
    have hP : va_P (dC, dI) classes [(h, .inr (1, [.ref a1, .ref a2, .ref a3, .int 0, .ref a4, .int 0, .ref a5])), (a5, .inl (cT, 4, .inr (.inr (.inr (.inr tf))))), (t0, .inr (0, [.ref x0, .ref y0, .long b0, .int 0])), (t1, .inr (0, [.ref x1, .ref y1, .long b1, .int c1])), (t2, .inr (0, [.ref x2, .ref y2, .long b2, .int c2])), (t3, .inr (0, [.ref x3, .ref y3, .long b3, .int c3]))] H := hP
    have hD : va_D A [(h, .inr (1, [.ref a1, .ref a2, .ref a3, .int 0, .ref a4, .int 0, .ref a5])), (a5, .inl (cT, 4, .inr (.inr (.inr (.inr tf))))), (t0, .inr (0, [.ref x0, .ref y0, .long b0, .int 0])), (t1, .inr (0, [.ref x1, .ref y1, .long b1, .int c1])), (t2, .inr (0, [.ref x2, .ref y2, .long b2, .int c2])), (t3, .inr (0, [.ref x3, .ref y3, .long b3, .int c3]))] := hD
    refine lv_iinc (v := 1) (lv' := [(1, .int 1), (2, .ref t0), (0, .ref h)]) hx hb d_X_clear_32 hl (k := 1) rfl (by decide) (by decide) rfl (fun ls hl => ?_)
    refine lv_goto (tgt := 12) hx hb d_X_clear_35 (by decide) ?_
    refine lv_iload_n hx hb d_X_clear_12 rfl (lv_at hl 0 rfl) ?_
    refine lv_iconst (v := 4) hx hb d_X_clear_13 (by decide) ?_
    refine lv_icmp_ge (tgt := 38) hx hb d_X_clear_14 (by decide) (fun c_2 => ?_) (fun c_2 => ?_)
    · skip
      exact absurd c_2 (by decide)
    · skip
      refine lv_aload_n hx hb d_X_clear_17 rfl (lv_at hl 2 rfl) ?_
      refine lv_iload_n hx hb d_X_clear_18 rfl (lv_at hl 0 rfl) ?_
      have hPc := hP.sub (ws' := [(h, .inr (1, [.ref a1, .ref a2, .ref a3, .int 0, .ref a4, .int 0, .ref a5])), (a5, .inl (cT, 4, .inr (.inr (.inr (.inr tf)))))]) [0, 1] rfl
      refine W.callV (W.runV (As := [.int 1]) (rest := []) ⟨hx, hb, hml, hown, hg⟩ (k_X_tableAt l dC dI cJ cI cT h a1 a2 a3 a4 a5 0 0 tf 1) (q_V 1 hg wg_122 wg_120 wg_121 wg_2 wg_13 rfl rfl (by decide +kernel) ⟨Nat.le_of_ble_eq_true rfl, Nat.le_of_ble_eq_true rfl⟩) ⟨wd_blind, va_recv hK hPc (ci := 1) (q0 := 0) rfl rfl, wd_pre (as := .ref h :: [.int 1]) hPc hK⟩ rfl rfl hl.1 rfl (lv_room (Nat.le_of_ble_eq_true rfl)) d_X_clear_19 ⟨Nat.le_of_ble_eq_true rfl, Nat.le_of_ble_eq_true rfl⟩) ?_
      refine W.eq (g2 := F0 m 22 ls (.ref t1 :: [])) (by rw [hf1] <;> rfl) ?_
      refine lv_astore_n (lv' := [(2, .ref t1), (1, .int 1), (0, .ref h)]) hx hb d_X_clear_22 rfl hl (by decide) rfl (fun ls hl => ?_)
      refine lv_aload_n hx hb d_X_clear_23 rfl (lv_at hl 0 rfl) ?_
      refine lv_ifnull hx hb d_X_clear_24 ?_
      refine lv_aload_n hx hb d_X_clear_27 rfl (lv_at hl 0 rfl) ?_
      refine lv_iconst (v := 0) hx hb d_X_clear_28 (by decide) ?_
      refine va_putN (D := (dC, dI)) (ci := 0) (v := .int 0) (ty := .int) (C := R_T) (T := F_T) (N := 4) hx hb hg in_T tt_T tt_T_ok nn_T hown hK hP hD hS 3 rfl rfl 3 (by decide) (va_Nw.use rfl (hN _ nw_4)) (fun _ h9 => h9) rfl (by decide +kernel) rfl rfl (Nat.le_of_ble_eq_true rfl) d_X_clear_29 (fun H locs hP hD hS => ?_)
      have hP : va_P (dC, dI) classes [(h, .inr (1, [.ref a1, .ref a2, .ref a3, .int 0, .ref a4, .int 0, .ref a5])), (a5, .inl (cT, 4, .inr (.inr (.inr (.inr tf))))), (t0, .inr (0, [.ref x0, .ref y0, .long b0, .int 0])), (t1, .inr (0, [.ref x1, .ref y1, .long b1, .int 0])), (t2, .inr (0, [.ref x2, .ref y2, .long b2, .int c2])), (t3, .inr (0, [.ref x3, .ref y3, .long b3, .int c3]))] H := hP
      have hD : va_D A [(h, .inr (1, [.ref a1, .ref a2, .ref a3, .int 0, .ref a4, .int 0, .ref a5])), (a5, .inl (cT, 4, .inr (.inr (.inr (.inr tf))))), (t0, .inr (0, [.ref x0, .ref y0, .long b0, .int 0])), (t1, .inr (0, [.ref x1, .ref y1, .long b1, .int 0])), (t2, .inr (0, [.ref x2, .ref y2, .long b2, .int c2])), (t3, .inr (0, [.ref x3, .ref y3, .long b3, .int c3]))] := hD
      refine lv_iinc (v := 2) (lv' := [(1, .int 2), (2, .ref t1), (0, .ref h)]) hx hb d_X_clear_32 hl (k := 1) rfl (by decide) (by decide) rfl (fun ls hl => ?_)
      refine lv_goto (tgt := 12) hx hb d_X_clear_35 (by decide) ?_
      refine lv_iload_n hx hb d_X_clear_12 rfl (lv_at hl 0 rfl) ?_
      refine lv_iconst (v := 4) hx hb d_X_clear_13 (by decide) ?_
      refine lv_icmp_ge (tgt := 38) hx hb d_X_clear_14 (by decide) (fun c_3 => ?_) (fun c_3 => ?_)
      · skip
        exact absurd c_3 (by decide)
      · skip
        refine lv_aload_n hx hb d_X_clear_17 rfl (lv_at hl 2 rfl) ?_
        refine lv_iload_n hx hb d_X_clear_18 rfl (lv_at hl 0 rfl) ?_
        have hPc := hP.sub (ws' := [(h, .inr (1, [.ref a1, .ref a2, .ref a3, .int 0, .ref a4, .int 0, .ref a5])), (a5, .inl (cT, 4, .inr (.inr (.inr (.inr tf)))))]) [0, 1] rfl
        refine W.callV (W.runV (As := [.int 2]) (rest := []) ⟨hx, hb, hml, hown, hg⟩ (k_X_tableAt l dC dI cJ cI cT h a1 a2 a3 a4 a5 0 0 tf 2) (q_V 1 hg wg_122 wg_120 wg_121 wg_2 wg_13 rfl rfl (by decide +kernel) ⟨Nat.le_of_ble_eq_true rfl, Nat.le_of_ble_eq_true rfl⟩) ⟨wd_blind, va_recv hK hPc (ci := 1) (q0 := 0) rfl rfl, wd_pre (as := .ref h :: [.int 2]) hPc hK⟩ rfl rfl hl.1 rfl (lv_room (Nat.le_of_ble_eq_true rfl)) d_X_clear_19 ⟨Nat.le_of_ble_eq_true rfl, Nat.le_of_ble_eq_true rfl⟩) ?_
        refine W.eq (g2 := F0 m 22 ls (.ref t2 :: [])) (by rw [hf2] <;> rfl) ?_
        refine lv_astore_n (lv' := [(2, .ref t2), (1, .int 2), (0, .ref h)]) hx hb d_X_clear_22 rfl hl (by decide) rfl (fun ls hl => ?_)
        refine lv_aload_n hx hb d_X_clear_23 rfl (lv_at hl 0 rfl) ?_
        refine lv_ifnull hx hb d_X_clear_24 ?_
        refine lv_aload_n hx hb d_X_clear_27 rfl (lv_at hl 0 rfl) ?_
        refine lv_iconst (v := 0) hx hb d_X_clear_28 (by decide) ?_
        refine va_putN (D := (dC, dI)) (ci := 0) (v := .int 0) (ty := .int) (C := R_T) (T := F_T) (N := 4) hx hb hg in_T tt_T tt_T_ok nn_T hown hK hP hD hS 4 rfl rfl 3 (by decide) (va_Nw.use rfl (hN _ nw_4)) (fun _ h9 => h9) rfl (by decide +kernel) rfl rfl (Nat.le_of_ble_eq_true rfl) d_X_clear_29 (fun H locs hP hD hS => ?_)
        have hP : va_P (dC, dI) classes [(h, .inr (1, [.ref a1, .ref a2, .ref a3, .int 0, .ref a4, .int 0, .ref a5])), (a5, .inl (cT, 4, .inr (.inr (.inr (.inr tf))))), (t0, .inr (0, [.ref x0, .ref y0, .long b0, .int 0])), (t1, .inr (0, [.ref x1, .ref y1, .long b1, .int 0])), (t2, .inr (0, [.ref x2, .ref y2, .long b2, .int 0])), (t3, .inr (0, [.ref x3, .ref y3, .long b3, .int c3]))] H := hP
        have hD : va_D A [(h, .inr (1, [.ref a1, .ref a2, .ref a3, .int 0, .ref a4, .int 0, .ref a5])), (a5, .inl (cT, 4, .inr (.inr (.inr (.inr tf))))), (t0, .inr (0, [.ref x0, .ref y0, .long b0, .int 0])), (t1, .inr (0, [.ref x1, .ref y1, .long b1, .int 0])), (t2, .inr (0, [.ref x2, .ref y2, .long b2, .int 0])), (t3, .inr (0, [.ref x3, .ref y3, .long b3, .int c3]))] := hD
        refine lv_iinc (v := 3) (lv' := [(1, .int 3), (2, .ref t2), (0, .ref h)]) hx hb d_X_clear_32 hl (k := 1) rfl (by decide) (by decide) rfl (fun ls hl => ?_)
        refine lv_goto (tgt := 12) hx hb d_X_clear_35 (by decide) ?_
        refine lv_iload_n hx hb d_X_clear_12 rfl (lv_at hl 0 rfl) ?_
        refine lv_iconst (v := 4) hx hb d_X_clear_13 (by decide) ?_
        refine lv_icmp_ge (tgt := 38) hx hb d_X_clear_14 (by decide) (fun c_4 => ?_) (fun c_4 => ?_)
        · skip
          exact absurd c_4 (by decide)
        · skip
          refine lv_aload_n hx hb d_X_clear_17 rfl (lv_at hl 2 rfl) ?_
          refine lv_iload_n hx hb d_X_clear_18 rfl (lv_at hl 0 rfl) ?_
          have hPc := hP.sub (ws' := [(h, .inr (1, [.ref a1, .ref a2, .ref a3, .int 0, .ref a4, .int 0, .ref a5])), (a5, .inl (cT, 4, .inr (.inr (.inr (.inr tf)))))]) [0, 1] rfl
          refine W.callV (W.runV (As := [.int 3]) (rest := []) ⟨hx, hb, hml, hown, hg⟩ (k_X_tableAt l dC dI cJ cI cT h a1 a2 a3 a4 a5 0 0 tf 3) (q_V 1 hg wg_122 wg_120 wg_121 wg_2 wg_13 rfl rfl (by decide +kernel) ⟨Nat.le_of_ble_eq_true rfl, Nat.le_of_ble_eq_true rfl⟩) ⟨wd_blind, va_recv hK hPc (ci := 1) (q0 := 0) rfl rfl, wd_pre (as := .ref h :: [.int 3]) hPc hK⟩ rfl rfl hl.1 rfl (lv_room (Nat.le_of_ble_eq_true rfl)) d_X_clear_19 ⟨Nat.le_of_ble_eq_true rfl, Nat.le_of_ble_eq_true rfl⟩) ?_
          refine W.eq (g2 := F0 m 22 ls (.ref t3 :: [])) (by rw [hf3] <;> rfl) ?_
          refine lv_astore_n (lv' := [(2, .ref t3), (1, .int 3), (0, .ref h)]) hx hb d_X_clear_22 rfl hl (by decide) rfl (fun ls hl => ?_)
          refine lv_aload_n hx hb d_X_clear_23 rfl (lv_at hl 0 rfl) ?_
          refine lv_ifnull hx hb d_X_clear_24 ?_
          refine lv_aload_n hx hb d_X_clear_27 rfl (lv_at hl 0 rfl) ?_
          refine lv_iconst (v := 0) hx hb d_X_clear_28 (by decide) ?_
          refine va_putN (D := (dC, dI)) (ci := 0) (v := .int 0) (ty := .int) (C := R_T) (T := F_T) (N := 4) hx hb hg in_T tt_T tt_T_ok nn_T hown hK hP hD hS 5 rfl rfl 3 (by decide) (va_Nw.use rfl (hN _ nw_4)) (fun _ h9 => h9) rfl (by decide +kernel) rfl rfl (Nat.le_of_ble_eq_true rfl) d_X_clear_29 (fun H locs hP hD hS => ?_)
          have hP : va_P (dC, dI) classes [(h, .inr (1, [.ref a1, .ref a2, .ref a3, .int 0, .ref a4, .int 0, .ref a5])), (a5, .inl (cT, 4, .inr (.inr (.inr (.inr tf))))), (t0, .inr (0, [.ref x0, .ref y0, .long b0, .int 0])), (t1, .inr (0, [.ref x1, .ref y1, .long b1, .int 0])), (t2, .inr (0, [.ref x2, .ref y2, .long b2, .int 0])), (t3, .inr (0, [.ref x3, .ref y3, .long b3, .int 0]))] H := hP
          have hD : va_D A [(h, .inr (1, [.ref a1, .ref a2, .ref a3, .int 0, .ref a4, .int 0, .ref a5])), (a5, .inl (cT, 4, .inr (.inr (.inr (.inr tf))))), (t0, .inr (0, [.ref x0, .ref y0, .long b0, .int 0])), (t1, .inr (0, [.ref x1, .ref y1, .long b1, .int 0])), (t2, .inr (0, [.ref x2, .ref y2, .long b2, .int 0])), (t3, .inr (0, [.ref x3, .ref y3, .long b3, .int 0]))] := hD
          refine lv_iinc (v := 4) (lv' := [(1, .int 4), (2, .ref t3), (0, .ref h)]) hx hb d_X_clear_32 hl (k := 1) rfl (by decide) (by decide) rfl (fun ls hl => ?_)
          refine lv_goto (tgt := 12) hx hb d_X_clear_35 (by decide) ?_
          refine lv_iload_n hx hb d_X_clear_12 rfl (lv_at hl 0 rfl) ?_
          refine lv_iconst (v := 4) hx hb d_X_clear_13 (by decide) ?_
          refine lv_icmp_ge (tgt := 38) hx hb d_X_clear_14 (by decide) (fun c_5 => ?_) (fun c_5 => ?_)
          · skip
            have hP9 := hP.sub (ws' := [(h, .inr (1, [.ref a1, .ref a2, .ref a3, .int 0, .ref a4, .int 0, .ref a5])), (a5, .inl (cT, 4, .inr (.inr (.inr (.inr tf))))), (t0, .inr (0, [.ref x0, .ref y0, .long b0, .int 0])), (t1, .inr (0, [.ref x1, .ref y1, .long b1, .int 0])), (t2, .inr (0, [.ref x2, .ref y2, .long b2, .int 0])), (t3, .inr (0, [.ref x3, .ref y3, .long b3, .int 0]))]) [0, 1, 2, 3, 4, 5] rfl
            have hD9 := hD.sub (ws' := [(h, .inr (1, [.ref a1, .ref a2, .ref a3, .int 0, .ref a4, .int 0, .ref a5])), (a5, .inl (cT, 4, .inr (.inr (.inr (.inr tf))))), (t0, .inr (0, [.ref x0, .ref y0, .long b0, .int 0])), (t1, .inr (0, [.ref x1, .ref y1, .long b1, .int 0])), (t2, .inr (0, [.ref x2, .ref y2, .long b2, .int 0])), (t3, .inr (0, [.ref x3, .ref y3, .long b3, .int 0]))]) [0, 1, 2, 3, 4, 5] (by decide) rfl
            exact W.vret hx hb hr (fun t ht hW => ⟨⟨(), rfl, rfl, wb_of ht hW hP9 hK hD9⟩, hS.F ht⟩) hS.2.2 d_X_clear_38
          · skip
            exact absurd (by decide) c_5
end
section
theorem arr_J {D : va_G} {cl : List vw_C} {cJ cI cT cA : ClassId} {s : State} (h : va_K D cl (TY cJ cI cT ++ [(cA, .long)]) s) : cA = cJ := by
  have h1 : s.vm.findClass ("[" ++ FieldType.long.toString) = some cA := (h.2 3 _ rfl).2
  have h2 : s.vm.findClass ("[" ++ FieldType.long.toString) = some cJ := (h.2 0 _ rfl).2
  exact Option.some.inj (h1.symm.trans h2)
theorem arr_I {D : va_G} {cl : List vw_C} {cJ cI cT cA : ClassId} {s : State} (h : va_K D cl (TY cJ cI cT ++ [(cA, .int)]) s) : cA = cI := by
  have h1 : s.vm.findClass ("[" ++ FieldType.int.toString) = some cA := (h.2 3 _ rfl).2
  have h2 : s.vm.findClass ("[" ++ FieldType.int.toString) = some cI := (h.2 1 _ rfl).2
  exact Option.some.inj (h1.symm.trans h2)
theorem arr_T {D : va_G} {cl : List vw_C} {cJ cI cT cA : ClassId} {s : State} (h : va_K D cl (TY cJ cI cT ++ [(cA, .object "LitreFractions$Table")]) s) : cA = cT := by
  obtain ⟨_, _, _, _, _, h1⟩ := (h.2 3 _ rfl).2
  obtain ⟨_, _, _, _, _, h2⟩ := (h.2 2 _ rfl).2
  exact Option.some.inj (h1.symm.trans h2)
abbrev tf0 (a b c d : Nat) : Nat → Option Nat := va_up (va_up (va_up (va_up (fun _ => none) 0 (some a)) 1 (some b)) 2 (some c)) 3 (some d)
theorem ao_blind {as : List Value} {C : String} : FrameBlind (va_Pc as (va_AO C)) := fun a U g mk q => ⟨q.1, va_AO.moved (u := U) (U := U.calling g mk a) (Vm.Alike.refl U.vm) q.2⟩
set_option maxHeartbeats 4000000 in
set_option maxRecDepth 100000 in
theorem k_T_init (l : Launch) (dC : Nat → ClassId) (dI : Nat → Nat → Nat) (cJ cI cT : ClassId) (th : Nat) (sz : Nat) : Met l y_T_init w_T_init ({ frames := 1, cells := 2, slots := 32, locals := 12 }) (va_Pc [.ref th] (wx dC dI cJ cI cT sz [(th, .inr (0, [.null, .null, .long 0, .int 0]))])) (va_Qv (fun (_ : Nat × Nat) => True) (fun u => wb dC dI cJ cI cT (va_A [(th, .inr (0, [.null, .null, .long 0, .int 0]))] sz) [(th, .inr (0, [.ref u.1, .ref u.2, .long 0, .int 0])), (u.1, .inl (cJ, 16, .inr (.inl (fun _ => 0)))), (u.2, .inl (cJ, 16, .inr (.inl (fun _ => 0))))]) (va_A [(th, .inr (0, [.null, .null, .long 0, .int 0]))] sz)) 2 32 (va_A [(th, .inr (0, [.null, .null, .long 0, .int 0]))] sz) := by
  refine Met.ofW (cc := c_T_init) (maxL := 1) (ret := (Option.none : Option Jvm.ClassFile.FieldType)) (by decide) rfl ?_
  intro p e s m args below meth c s₁ B hml hv
  obtain ⟨rfl, hsz, hP, hK, hD0⟩ := hv
  have hx := B.exec
  have hb := B.bytes
  have hr := B.returns
  have hts := atoms_spec (ws := w_T_init) B.pre
  have hg : ∀ w ∈ WG, w.before _ s = true := fun w h => hts w (List.mem_cons_of_mem _ h)
  have hown : s.vm.findClass R_T = some m.cls := findClass_of_methodNamed B.named
  have hlocks := B.notSynchronized
  have hl := lv_entry ([.ref th]) (n := 1) (Nat.le_of_ble_eq_true rfl)
  rw [lg_entry_eq]
  generalize (lg_sl ([.ref th]) ++ List.replicate (1 - (lg_sl ([.ref th])).length) Slot.unset).toArray = ls at hl ⊢
  have hl : lv_has ls 1 [(0, .ref th)] := hl
  have hin : meth.name = "<init>" := (name_of_methodNamed B.named B.method).1
  subst hsz
  have hD := hD0.self (sz := s.heap.size)
  generalize hAe : va_A [(th, .inr (0, [.null, .null, .long 0, .int 0]))] s.heap.size = A at hD ⊢
  have hA : ∀ q : Nat, s.heap.size ≤ q → A q := fun q h => by rw [← hAe]; exact Or.inr h
  have hS : va_S A s.heap s.heap [] := va_S.rf
  have hP : va_P (dC, dI) classes [(th, .inr (0, [.null, .null, .long 0, .int 0]))] s.heap := hP
  have hD : va_D A [(th, .inr (0, [.null, .null, .long 0, .int 0]))] := hD
  refine lv_aload_n hx hb d_T_init_0 rfl (lv_at hl 0 rfl) ?_
  refine W.objInit hx hb hown (hg _ wg_35) (hg _ wg_29) (hg _ wg_30) rfl (by rw [hml]; exact hl.1) rfl d_T_init_1 (Nat.le_of_ble_eq_true rfl) (Nat.le_of_ble_eq_true rfl) ?_
  refine W.eq (g2 := F0 m 4 ls []) rfl ?_
  refine lv_aload_n hx hb d_T_init_4 rfl (lv_at hl 0 rfl) ?_
  refine lv_bipush (v := 16) hx hb d_T_init_5 (by decide) ?_
  refine va_newa (atype := .long) (ty := .long) (D := (dC, dI)) (a0 := (16, .inr (.inl (fun _ => 0)))) (N' := 16) hx hb (hg _ wg_44) rfl hK hP hD hS hA (fun _ => rfl) (by decide) (by decide) (by decide) (Nat.le_of_ble_eq_true rfl) (Nat.le_of_ble_eq_true rfl) d_T_init_7 (fun q_1 cA H hK9 hP hD hS => ?_)
  obtain rfl : cJ = cA := (arr_J hK9).symm
  have hP : va_P (dC, dI) classes [(th, .inr (0, [.null, .null, .long 0, .int 0])), (q_1, .inl (cJ, 16, .inr (.inl (fun _ => 0))))] H := hP
  have hD : va_D A [(th, .inr (0, [.null, .null, .long 0, .int 0])), (q_1, .inl (cJ, 16, .inr (.inl (fun _ => 0))))] := hD
  refine va_putF (D := (dC, dI)) (ci := 0) (v := .ref q_1) (ty := .array .long) (C := R_T) (T := F_T) (N := 4) hx hb hg in_T tt_T tt_T_ok nn_T hown hK hP hD hS 0 rfl rfl 0 (by decide) (hg _ wg_36) (fun _ h9 => h9) rfl hin rfl (by decide +kernel) rfl rfl (Nat.le_of_ble_eq_true rfl) d_T_init_9 (fun H locs hP hD hS => ?_)
  have hP : va_P (dC, dI) classes [(th, .inr (0, [.ref q_1, .null, .long 0, .int 0])), (q_1, .inl (cJ, 16, .inr (.inl (fun _ => 0))))] H := hP
  have hD : va_D A [(th, .inr (0, [.ref q_1, .null, .long 0, .int 0])), (q_1, .inl (cJ, 16, .inr (.inl (fun _ => 0))))] := hD
  refine lv_aload_n hx hb d_T_init_12 rfl (lv_at hl 0 rfl) ?_
  refine lv_bipush (v := 16) hx hb d_T_init_13 (by decide) ?_
  refine va_newa (atype := .long) (ty := .long) (D := (dC, dI)) (a0 := (16, .inr (.inl (fun _ => 0)))) (N' := 16) hx hb (hg _ wg_44) rfl hK hP hD hS hA (fun _ => rfl) (by decide) (by decide) (by decide) (Nat.le_of_ble_eq_true rfl) (Nat.le_of_ble_eq_true rfl) d_T_init_15 (fun q_2 cA H hK9 hP hD hS => ?_)
  obtain rfl : cJ = cA := (arr_J hK9).symm
  have hP : va_P (dC, dI) classes [(th, .inr (0, [.ref q_1, .null, .long 0, .int 0])), (q_1, .inl (cJ, 16, .inr (.inl (fun _ => 0)))), (q_2, .inl (cJ, 16, .inr (.inl (fun _ => 0))))] H := hP
  have hD : va_D A [(th, .inr (0, [.ref q_1, .null, .long 0, .int 0])), (q_1, .inl (cJ, 16, .inr (.inl (fun _ => 0)))), (q_2, .inl (cJ, 16, .inr (.inl (fun _ => 0))))] := hD
  refine va_putF (D := (dC, dI)) (ci := 0) (v := .ref q_2) (ty := .array .long) (C := R_T) (T := F_T) (N := 4) hx hb hg in_T tt_T tt_T_ok nn_T hown hK hP hD hS 0 rfl rfl 1 (by decide) (hg _ wg_37) (fun _ h9 => h9) rfl hin rfl (by decide +kernel) rfl rfl (Nat.le_of_ble_eq_true rfl) d_T_init_17 (fun H locs hP hD hS => ?_)
  have hP : va_P (dC, dI) classes [(th, .inr (0, [.ref q_1, .ref q_2, .long 0, .int 0])), (q_1, .inl (cJ, 16, .inr (.inl (fun _ => 0)))), (q_2, .inl (cJ, 16, .inr (.inl (fun _ => 0))))] H := hP
  have hD : va_D A [(th, .inr (0, [.ref q_1, .ref q_2, .long 0, .int 0])), (q_1, .inl (cJ, 16, .inr (.inl (fun _ => 0)))), (q_2, .inl (cJ, 16, .inr (.inl (fun _ => 0))))] := hD
  have hP9 := hP.sub (ws' := [(th, .inr (0, [.ref q_1, .ref q_2, .long 0, .int 0])), (q_1, .inl (cJ, 16, .inr (.inl (fun _ => 0)))), (q_2, .inl (cJ, 16, .inr (.inl (fun _ => 0))))]) [0, 1, 2] rfl
  have hD9 := hD.sub (ws' := [(th, .inr (0, [.ref q_1, .ref q_2, .long 0, .int 0])), (q_1, .inl (cJ, 16, .inr (.inl (fun _ => 0)))), (q_2, .inl (cJ, 16, .inr (.inl (fun _ => 0))))]) [0, 1, 2] (by decide) rfl
  refine W.widen (k := 2) (n := 32) (Nat.le_of_ble_eq_true rfl) (Nat.le_of_ble_eq_true rfl) ?_
  exact W.vret hx hb hr (fun t ht hW => ⟨⟨(q_1, q_2), rfl, trivial, wb_of ht hW hP9 hK hD9⟩, hS.F ht⟩) hS.2.2 d_T_init_20
end
section
set_option maxHeartbeats 4000000 in
set_option maxRecDepth 100000 in
theorem k_X_init (l : Launch) (dC : Nat → ClassId) (dI : Nat → Nat → Nat) (cJ cI cT : ClassId) (h : Nat) (sz : Nat) : Met l y_X_init w_X_init ({ frames := 2, cells := 17, slots := 1664, locals := 32 }) (va_Pc [.ref h] (fun U => (wx dC dI cJ cI cT sz [(h, .inr (1, [.null, .null, .null, .int 0, .null, .int 0, .null]))] U ∧ nwd U) ∧ va_AO "LitreFractions$Table" U)) (va_Qv (fun (_ : Nat → Nat) => True) (fun u => wb dC dI cJ cI cT (va_A [(h, .inr (1, [.null, .null, .null, .int 0, .null, .int 0, .null]))] sz) [(h, .inr (1, [.ref (u 0), .ref (u 1), .ref (u 2), .int 0, .ref (u 3), .int 0, .ref (u 4)])), ((u 0), .inl (cJ, 500, .inr (.inl (fun _ => 0)))), ((u 1), .inl (cJ, 500, .inr (.inl (fun _ => 0)))), ((u 2), .inl (cI, 500, .inl (fun _ => 0))), ((u 3), .inl (cJ, 16, .inr (.inl (fun _ => 0)))), ((u 4), .inl (cT, 4, .inr (.inr (.inr (.inr (tf0 (u 5) (u 6) (u 7) (u 8))))))), ((u 5), .inr (0, [.ref (u 9), .ref (u 13), .long 0, .int 0])), ((u 9), .inl (cJ, 16, .inr (.inl (fun _ => 0)))), ((u 13), .inl (cJ, 16, .inr (.inl (fun _ => 0)))), ((u 6), .inr (0, [.ref (u 10), .ref (u 14), .long 0, .int 0])), ((u 10), .inl (cJ, 16, .inr (.inl (fun _ => 0)))), ((u 14), .inl (cJ, 16, .inr (.inl (fun _ => 0)))), ((u 7), .inr (0, [.ref (u 11), .ref (u 15), .long 0, .int 0])), ((u 11), .inl (cJ, 16, .inr (.inl (fun _ => 0)))), ((u 15), .inl (cJ, 16, .inr (.inl (fun _ => 0)))), ((u 8), .inr (0, [.ref (u 12), .ref (u 16), .long 0, .int 0])), ((u 12), .inl (cJ, 16, .inr (.inl (fun _ => 0)))), ((u 16), .inl (cJ, 16, .inr (.inl (fun _ => 0))))]) (va_A [(h, .inr (1, [.null, .null, .null, .int 0, .null, .int 0, .null]))] sz)) 17 1664 (va_A [(h, .inr (1, [.null, .null, .null, .int 0, .null, .int 0, .null]))] sz) := by
  refine Met.ofW (cc := c_X_init) (maxL := 2) (ret := (Option.none : Option Jvm.ClassFile.FieldType)) (by decide) rfl ?_
  intro p e s m args below meth c s₁ B hml hv
  obtain ⟨rfl, ⟨⟨hsz, hP, hK, hD0⟩, hN⟩, hAO⟩ := hv
  have hx := B.exec
  have hb := B.bytes
  have hr := B.returns
  have hts := atoms_spec (ws := w_X_init) B.pre
  have hg : ∀ w ∈ WG, w.before _ s = true := fun w h => hts w (List.mem_cons_of_mem _ h)
  have hown : s.vm.findClass R_X = some m.cls := findClass_of_methodNamed B.named
  have hlocks := B.notSynchronized
  have hl := lv_entry ([.ref h]) (n := 2) (Nat.le_of_ble_eq_true rfl)
  rw [lg_entry_eq]
  generalize (lg_sl ([.ref h]) ++ List.replicate (2 - (lg_sl ([.ref h])).length) Slot.unset).toArray = ls at hl ⊢
  have hl : lv_has ls 2 [(0, .ref h)] := hl
  have hin : meth.name = "<init>" := (name_of_methodNamed B.named B.method).1
  subst hsz
  have hD := hD0.self (sz := s.heap.size)
  generalize hAe : va_A [(h, .inr (1, [.null, .null, .null, .int 0, .null, .int 0, .null]))] s.heap.size = A at hD ⊢
  have hA : ∀ q : Nat, s.heap.size ≤ q → A q := fun q h => by rw [← hAe]; exact Or.inr h
  have hS : va_S A s.heap s.heap [] := va_S.rf
  have hP : va_P (dC, dI) classes [(h, .inr (1, [.null, .null, .null, .int 0, .null, .int 0, .null]))] s.heap := hP
  have hD : va_D A [(h, .inr (1, [.null, .null, .null, .int 0, .null, .int 0, .null]))] := hD
  refine lv_aload_n hx hb d_X_init_0 rfl (lv_at hl 0 rfl) ?_
  refine W.objInit hx hb hown (hg _ wg_28) (hg _ wg_29) (hg _ wg_30) rfl (by rw [hml]; exact hl.1) rfl d_X_init_1 (Nat.le_of_ble_eq_true rfl) (Nat.le_of_ble_eq_true rfl) ?_
  refine W.eq (g2 := F0 m 4 ls []) rfl ?_
  refine lv_aload_n hx hb d_X_init_4 rfl (lv_at hl 0 rfl) ?_
  refine lv_sipush (v := 500) hx hb d_X_init_5 (by decide) ?_
  refine va_newa (atype := .long) (ty := .long) (D := (dC, dI)) (a0 := (500, .inr (.inl (fun _ => 0)))) (N' := 500) hx hb (hg _ wg_44) rfl hK hP hD hS hA (fun _ => rfl) (by decide) (by decide) (by decide) (Nat.le_of_ble_eq_true rfl) (Nat.le_of_ble_eq_true rfl) d_X_init_8 (fun q_1 cA H hK9 hP hD hS => ?_)
  obtain rfl : cJ = cA := (arr_J hK9).symm
  have hP : va_P (dC, dI) classes [(h, .inr (1, [.null, .null, .null, .int 0, .null, .int 0, .null])), (q_1, .inl (cJ, 500, .inr (.inl (fun _ => 0))))] H := hP
  have hD : va_D A [(h, .inr (1, [.null, .null, .null, .int 0, .null, .int 0, .null])), (q_1, .inl (cJ, 500, .inr (.inl (fun _ => 0))))] := hD
  refine va_putF (D := (dC, dI)) (ci := 1) (v := .ref q_1) (ty := .array .long) (C := R_X) (T := F_X) (N := 7) hx hb hg in_X tt_X tt_X_ok nn_X hown hK hP hD hS 0 rfl rfl 0 (by decide) (hg _ wg_46) (fun _ h9 => h9) rfl hin rfl (by decide +kernel) rfl rfl (Nat.le_of_ble_eq_true rfl) d_X_init_10 (fun H locs hP hD hS => ?_)
  have hP : va_P (dC, dI) classes [(h, .inr (1, [.ref q_1, .null, .null, .int 0, .null, .int 0, .null])), (q_1, .inl (cJ, 500, .inr (.inl (fun _ => 0))))] H := hP
  have hD : va_D A [(h, .inr (1, [.ref q_1, .null, .null, .int 0, .null, .int 0, .null])), (q_1, .inl (cJ, 500, .inr (.inl (fun _ => 0))))] := hD
  refine lv_aload_n hx hb d_X_init_13 rfl (lv_at hl 0 rfl) ?_
  refine lv_sipush (v := 500) hx hb d_X_init_14 (by decide) ?_
  refine va_newa (atype := .long) (ty := .long) (D := (dC, dI)) (a0 := (500, .inr (.inl (fun _ => 0)))) (N' := 500) hx hb (hg _ wg_44) rfl hK hP hD hS hA (fun _ => rfl) (by decide) (by decide) (by decide) (Nat.le_of_ble_eq_true rfl) (Nat.le_of_ble_eq_true rfl) d_X_init_17 (fun q_2 cA H hK9 hP hD hS => ?_)
  obtain rfl : cJ = cA := (arr_J hK9).symm
  have hP : va_P (dC, dI) classes [(h, .inr (1, [.ref q_1, .null, .null, .int 0, .null, .int 0, .null])), (q_1, .inl (cJ, 500, .inr (.inl (fun _ => 0)))), (q_2, .inl (cJ, 500, .inr (.inl (fun _ => 0))))] H := hP
  have hD : va_D A [(h, .inr (1, [.ref q_1, .null, .null, .int 0, .null, .int 0, .null])), (q_1, .inl (cJ, 500, .inr (.inl (fun _ => 0)))), (q_2, .inl (cJ, 500, .inr (.inl (fun _ => 0))))] := hD
  refine va_putF (D := (dC, dI)) (ci := 1) (v := .ref q_2) (ty := .array .long) (C := R_X) (T := F_X) (N := 7) hx hb hg in_X tt_X tt_X_ok nn_X hown hK hP hD hS 0 rfl rfl 1 (by decide) (hg _ wg_47) (fun _ h9 => h9) rfl hin rfl (by decide +kernel) rfl rfl (Nat.le_of_ble_eq_true rfl) d_X_init_19 (fun H locs hP hD hS => ?_)
  have hP : va_P (dC, dI) classes [(h, .inr (1, [.ref q_1, .ref q_2, .null, .int 0, .null, .int 0, .null])), (q_1, .inl (cJ, 500, .inr (.inl (fun _ => 0)))), (q_2, .inl (cJ, 500, .inr (.inl (fun _ => 0))))] H := hP
  have hD : va_D A [(h, .inr (1, [.ref q_1, .ref q_2, .null, .int 0, .null, .int 0, .null])), (q_1, .inl (cJ, 500, .inr (.inl (fun _ => 0)))), (q_2, .inl (cJ, 500, .inr (.inl (fun _ => 0))))] := hD
  refine lv_aload_n hx hb d_X_init_22 rfl (lv_at hl 0 rfl) ?_
  refine lv_sipush (v := 500) hx hb d_X_init_23 (by decide) ?_
  refine va_newa (atype := .int) (ty := .int) (D := (dC, dI)) (a0 := (500, .inl (fun _ => 0))) (N' := 500) hx hb (hg _ wg_45) rfl hK hP hD hS hA (fun _ => rfl) (by decide) (by decide) (by decide) (Nat.le_of_ble_eq_true rfl) (Nat.le_of_ble_eq_true rfl) d_X_init_26 (fun q_3 cA H hK9 hP hD hS => ?_)
  obtain rfl : cI = cA := (arr_I hK9).symm
  have hP : va_P (dC, dI) classes [(h, .inr (1, [.ref q_1, .ref q_2, .null, .int 0, .null, .int 0, .null])), (q_1, .inl (cJ, 500, .inr (.inl (fun _ => 0)))), (q_2, .inl (cJ, 500, .inr (.inl (fun _ => 0)))), (q_3, .inl (cI, 500, .inl (fun _ => 0)))] H := hP
  have hD : va_D A [(h, .inr (1, [.ref q_1, .ref q_2, .null, .int 0, .null, .int 0, .null])), (q_1, .inl (cJ, 500, .inr (.inl (fun _ => 0)))), (q_2, .inl (cJ, 500, .inr (.inl (fun _ => 0)))), (q_3, .inl (cI, 500, .inl (fun _ => 0)))] := hD
  refine va_putF (D := (dC, dI)) (ci := 1) (v := .ref q_3) (ty := .array .int) (C := R_X) (T := F_X) (N := 7) hx hb hg in_X tt_X tt_X_ok nn_X hown hK hP hD hS 0 rfl rfl 2 (by decide) (hg _ wg_48) (fun _ h9 => h9) rfl hin rfl (by decide +kernel) rfl rfl (Nat.le_of_ble_eq_true rfl) d_X_init_28 (fun H locs hP hD hS => ?_)
  have hP : va_P (dC, dI) classes [(h, .inr (1, [.ref q_1, .ref q_2, .ref q_3, .int 0, .null, .int 0, .null])), (q_1, .inl (cJ, 500, .inr (.inl (fun _ => 0)))), (q_2, .inl (cJ, 500, .inr (.inl (fun _ => 0)))), (q_3, .inl (cI, 500, .inl (fun _ => 0)))] H := hP
  have hD : va_D A [(h, .inr (1, [.ref q_1, .ref q_2, .ref q_3, .int 0, .null, .int 0, .null])), (q_1, .inl (cJ, 500, .inr (.inl (fun _ => 0)))), (q_2, .inl (cJ, 500, .inr (.inl (fun _ => 0)))), (q_3, .inl (cI, 500, .inl (fun _ => 0)))] := hD
  refine lv_aload_n hx hb d_X_init_31 rfl (lv_at hl 0 rfl) ?_
  refine lv_bipush (v := 16) hx hb d_X_init_32 (by decide) ?_
  refine va_newa (atype := .long) (ty := .long) (D := (dC, dI)) (a0 := (16, .inr (.inl (fun _ => 0)))) (N' := 16) hx hb (hg _ wg_44) rfl hK hP hD hS hA (fun _ => rfl) (by decide) (by decide) (by decide) (Nat.le_of_ble_eq_true rfl) (Nat.le_of_ble_eq_true rfl) d_X_init_34 (fun q_4 cA H hK9 hP hD hS => ?_)
  obtain rfl : cJ = cA := (arr_J hK9).symm
  have hP : va_P (dC, dI) classes [(h, .inr (1, [.ref q_1, .ref q_2, .ref q_3, .int 0, .null, .int 0, .null])), (q_1, .inl (cJ, 500, .inr (.inl (fun _ => 0)))), (q_2, .inl (cJ, 500, .inr (.inl (fun _ => 0)))), (q_3, .inl (cI, 500, .inl (fun _ => 0))), (q_4, .inl (cJ, 16, .inr (.inl (fun _ => 0))))] H := hP
  have hD : va_D A [(h, .inr (1, [.ref q_1, .ref q_2, .ref q_3, .int 0, .null, .int 0, .null])), (q_1, .inl (cJ, 500, .inr (.inl (fun _ => 0)))), (q_2, .inl (cJ, 500, .inr (.inl (fun _ => 0)))), (q_3, .inl (cI, 500, .inl (fun _ => 0))), (q_4, .inl (cJ, 16, .inr (.inl (fun _ => 0))))] := hD
  refine va_putF (D := (dC, dI)) (ci := 1) (v := .ref q_4) (ty := .array .long) (C := R_X) (T := F_X) (N := 7) hx hb hg in_X tt_X tt_X_ok nn_X hown hK hP hD hS 0 rfl rfl 4 (by decide) (hg _ wg_50) (fun _ h9 => h9) rfl hin rfl (by decide +kernel) rfl rfl (Nat.le_of_ble_eq_true rfl) d_X_init_36 (fun H locs hP hD hS => ?_)
  have hP : va_P (dC, dI) classes [(h, .inr (1, [.ref q_1, .ref q_2, .ref q_3, .int 0, .ref q_4, .int 0, .null])), (q_1, .inl (cJ, 500, .inr (.inl (fun _ => 0)))), (q_2, .inl (cJ, 500, .inr (.inl (fun _ => 0)))), (q_3, .inl (cI, 500, .inl (fun _ => 0))), (q_4, .inl (cJ, 16, .inr (.inl (fun _ => 0))))] H := hP
  have hD : va_D A [(h, .inr (1, [.ref q_1, .ref q_2, .ref q_3, .int 0, .ref q_4, .int 0, .null])), (q_1, .inl (cJ, 500, .inr (.inl (fun _ => 0)))), (q_2, .inl (cJ, 500, .inr (.inl (fun _ => 0)))), (q_3, .inl (cI, 500, .inl (fun _ => 0))), (q_4, .inl (cJ, 16, .inr (.inl (fun _ => 0))))] := hD
  refine lv_aload_n hx hb d_X_init_39 rfl (lv_at hl 0 rfl) ?_
  refine lv_iconst (v := 4) hx hb d_X_init_40 (by decide) ?_
  refine va_newq (D := (dC, dI)) (N' := 4) hx hb hown (hg _ wg_31) hAO hK hP hD hS hA (by decide) (by decide) (by decide) (Nat.le_of_ble_eq_true rfl) (Nat.le_of_ble_eq_true rfl) d_X_init_41 (fun q_5 cA H hK9 hP hD hS => ?_)
  obtain rfl : cT = cA := (arr_T hK9).symm
  have hP : va_P (dC, dI) classes [(h, .inr (1, [.ref q_1, .ref q_2, .ref q_3, .int 0, .ref q_4, .int 0, .null])), (q_1, .inl (cJ, 500, .inr (.inl (fun _ => 0)))), (q_2, .inl (cJ, 500, .inr (.inl (fun _ => 0)))), (q_3, .inl (cI, 500, .inl (fun _ => 0))), (q_4, .inl (cJ, 16, .inr (.inl (fun _ => 0)))), (q_5, .inl (cT, 4, .inr (.inr (.inr (.inr (fun _ => none))))))] H := hP
  have hD : va_D A [(h, .inr (1, [.ref q_1, .ref q_2, .ref q_3, .int 0, .ref q_4, .int 0, .null])), (q_1, .inl (cJ, 500, .inr (.inl (fun _ => 0)))), (q_2, .inl (cJ, 500, .inr (.inl (fun _ => 0)))), (q_3, .inl (cI, 500, .inl (fun _ => 0))), (q_4, .inl (cJ, 16, .inr (.inl (fun _ => 0)))), (q_5, .inl (cT, 4, .inr (.inr (.inr (.inr (fun _ => none))))))] := hD
  refine va_putF (D := (dC, dI)) (ci := 1) (v := .ref q_5) (ty := .array (.object "LitreFractions$Table")) (C := R_X) (T := F_X) (N := 7) hx hb hg in_X tt_X tt_X_ok nn_X hown hK hP hD hS 0 rfl rfl 6 (by decide) (hg _ wg_52) (fun _ h9 => h9) rfl hin rfl (by decide +kernel) rfl rfl (Nat.le_of_ble_eq_true rfl) d_X_init_44 (fun H locs hP hD hS => ?_)
  have hP : va_P (dC, dI) classes [(h, .inr (1, [.ref q_1, .ref q_2, .ref q_3, .int 0, .ref q_4, .int 0, .ref q_5])), (q_1, .inl (cJ, 500, .inr (.inl (fun _ => 0)))), (q_2, .inl (cJ, 500, .inr (.inl (fun _ => 0)))), (q_3, .inl (cI, 500, .inl (fun _ => 0))), (q_4, .inl (cJ, 16, .inr (.inl (fun _ => 0)))), (q_5, .inl (cT, 4, .inr (.inr (.inr (.inr (fun _ => none))))))] H := hP
  have hD : va_D A [(h, .inr (1, [.ref q_1, .ref q_2, .ref q_3, .int 0, .ref q_4, .int 0, .ref q_5])), (q_1, .inl (cJ, 500, .inr (.inl (fun _ => 0)))), (q_2, .inl (cJ, 500, .inr (.inl (fun _ => 0)))), (q_3, .inl (cI, 500, .inl (fun _ => 0))), (q_4, .inl (cJ, 16, .inr (.inl (fun _ => 0)))), (q_5, .inl (cT, 4, .inr (.inr (.inr (.inr (fun _ => none))))))] := hD
  refine lv_iconst (v := 0) hx hb d_X_init_47 (by decide) ?_
  refine lv_istore_n (lv' := [(1, .int 0), (0, .ref h)]) hx hb d_X_init_48 rfl hl (by decide) rfl (fun ls hl => ?_)
  refine lv_iload_n hx hb d_X_init_49 rfl (lv_at hl 0 rfl) ?_
  refine lv_iconst (v := 4) hx hb d_X_init_50 (by decide) ?_
  refine lv_icmp_ge (tgt := 73) hx hb d_X_init_51 (by decide) (fun c_6 => ?_) (fun c_6 => ?_)
  · skip
    exact absurd c_6 (by decide)
  · skip
    refine lv_aload_n hx hb d_X_init_54 rfl (lv_at hl 1 rfl) ?_
    refine va_get (D := (dC, dI)) (ci := 1) (v := .ref q_5) (C := R_X) (T := F_X) (N := 7) hx hb hg in_X hown hK hP 0 rfl rfl 6 (by decide) (hg _ wg_52) (fun _ h9 => h9) rfl d_X_init_55 ?_
    refine lv_iload_n hx hb d_X_init_58 rfl (lv_at hl 0 rfl) ?_
    refine va_new (ci := 0) (fs := [.null, .null, .long 0, .int 0]) (C := R_T) (T := F_T) (N := 4) hx hb hg in_T tt_T tt_T_ok hown (hg _ wg_31) (hg _ wg_32) (hg _ wg_14) hK hP hD hS hA rfl (fun j hj => by rcases (show j = 0 ∨ j = 1 ∨ j = 2 ∨ j = 3 by omega) with rfl | rfl | rfl | rfl <;> rfl) (Nat.le_of_ble_eq_true rfl) (Nat.le_of_ble_eq_true rfl) d_X_init_59 (fun q_7 H hP hD hS => ?_)
    have hP : va_P (dC, dI) classes [(h, .inr (1, [.ref q_1, .ref q_2, .ref q_3, .int 0, .ref q_4, .int 0, .ref q_5])), (q_1, .inl (cJ, 500, .inr (.inl (fun _ => 0)))), (q_2, .inl (cJ, 500, .inr (.inl (fun _ => 0)))), (q_3, .inl (cI, 500, .inl (fun _ => 0))), (q_4, .inl (cJ, 16, .inr (.inl (fun _ => 0)))), (q_5, .inl (cT, 4, .inr (.inr (.inr (.inr (fun _ => none)))))), (q_7, .inr (0, [.null, .null, .long 0, .int 0]))] H := hP
    have hD : va_D A [(h, .inr (1, [.ref q_1, .ref q_2, .ref q_3, .int 0, .ref q_4, .int 0, .ref q_5])), (q_1, .inl (cJ, 500, .inr (.inl (fun _ => 0)))), (q_2, .inl (cJ, 500, .inr (.inl (fun _ => 0)))), (q_3, .inl (cI, 500, .inl (fun _ => 0))), (q_4, .inl (cJ, 16, .inr (.inl (fun _ => 0)))), (q_5, .inl (cT, 4, .inr (.inr (.inr (.inr (fun _ => none)))))), (q_7, .inr (0, [.null, .null, .long 0, .int 0]))] := hD
    refine lv_dup hx hb d_X_init_62 rfl ?_
    have hPc := hP.sub (ws' := [(q_7, .inr (0, [.null, .null, .long 0, .int 0]))]) [6] rfl
    have hDc := hD.sub (ws' := [(q_7, .inr (0, [.null, .null, .long 0, .int 0]))]) [6] (by decide) rfl
    have hFc := va_free (wc := [(q_7, .inr (0, [.null, .null, .long 0, .int 0]))]) hD hS hA [6] rfl
    refine va_callv (va_runIN (As := []) (rest := [.ref q_7, .int 0, .ref q_5]) ⟨hx, hb, hml, hown, hg⟩ (k_T_init l dC dI cJ cI cT q_7 _) ⟨q_N 0 hg wg_34 (hN _ nw_0) wg_14 rfl rfl (by decide +kernel) ⟨(Nat.le_of_ble_eq_true rfl), (Nat.le_of_ble_eq_true rfl)⟩, rfl, hg _ wg_33⟩ ⟨wx_blind, wx_pre (as := [.ref q_7]) hPc hK hDc⟩ rfl rfl hl.1 rfl (lv_room (Nat.le_of_ble_eq_true rfl)) d_X_init_63 ⟨(Nat.le_of_ble_eq_true rfl), (Nat.le_of_ble_eq_true rfl)⟩) hS (fun q _ h => hFc q h) hFc (fun u t H1 locs ht hvm hw hB hz1 hk1 hS => ?_)
    obtain ⟨q_8, q_9⟩ := u
    obtain ⟨hP1, hK1, hD1⟩ := hB
    rw [ht] at hP1
    obtain ⟨hP, hD⟩ := va_join (wr := [(h, .inr (1, [.ref q_1, .ref q_2, .ref q_3, .int 0, .ref q_4, .int 0, .ref q_5])), (q_1, .inl (cJ, 500, .inr (.inl (fun _ => 0)))), (q_2, .inl (cJ, 500, .inr (.inl (fun _ => 0)))), (q_3, .inl (cI, 500, .inl (fun _ => 0))), (q_4, .inl (cJ, 16, .inr (.inl (fun _ => 0)))), (q_5, .inl (cT, 4, .inr (.inr (.inr (.inr (fun _ => none))))))]) (w1 := [(q_7, .inr (0, [.ref q_8, .ref q_9, .long 0, .int 0])), (q_8, .inl (cJ, 16, .inr (.inl (fun _ => 0)))), (q_9, .inl (cJ, 16, .inr (.inl (fun _ => 0))))]) hP hD [6] [0, 1, 2, 3, 4, 5] rfl rfl (by decide) (by decide) hk1 hFc hP1 hD1
    generalize H1 = H at hP hS ⊢
    have hP : va_P (dC, dI) classes [(h, .inr (1, [.ref q_1, .ref q_2, .ref q_3, .int 0, .ref q_4, .int 0, .ref q_5])), (q_1, .inl (cJ, 500, .inr (.inl (fun _ => 0)))), (q_2, .inl (cJ, 500, .inr (.inl (fun _ => 0)))), (q_3, .inl (cI, 500, .inl (fun _ => 0))), (q_4, .inl (cJ, 16, .inr (.inl (fun _ => 0)))), (q_5, .inl (cT, 4, .inr (.inr (.inr (.inr (fun _ => none)))))), (q_7, .inr (0, [.ref q_8, .ref q_9, .long 0, .int 0])), (q_8, .inl (cJ, 16, .inr (.inl (fun _ => 0)))), (q_9, .inl (cJ, 16, .inr (.inl (fun _ => 0))))] H := hP
    have hD : va_D A [(h, .inr (1, [.ref q_1, .ref q_2, .ref q_3, .int 0, .ref q_4, .int 0, .ref q_5])), (q_1, .inl (cJ, 500, .inr (.inl (fun _ => 0)))), (q_2, .inl (cJ, 500, .inr (.inl (fun _ => 0)))), (q_3, .inl (cI, 500, .inl (fun _ => 0))), (q_4, .inl (cJ, 16, .inr (.inl (fun _ => 0)))), (q_5, .inl (cT, 4, .inr (.inr (.inr (.inr (fun _ => none)))))), (q_7, .inr (0, [.ref q_8, .ref q_9, .long 0, .int 0])), (q_8, .inl (cJ, 16, .inr (.inl (fun _ => 0)))), (q_9, .inl (cJ, 16, .inr (.inl (fun _ => 0))))] := hD
    refine va_astq hx hb hK hP hD hS 5 2 6 0 rfl rfl rfl rfl (by unfold vp_in; decide) d_X_init_66 (fun H locs hP hD hS => ?_)
    have hP : va_P (dC, dI) classes [(h, .inr (1, [.ref q_1, .ref q_2, .ref q_3, .int 0, .ref q_4, .int 0, .ref q_5])), (q_1, .inl (cJ, 500, .inr (.inl (fun _ => 0)))), (q_2, .inl (cJ, 500, .inr (.inl (fun _ => 0)))), (q_3, .inl (cI, 500, .inl (fun _ => 0))), (q_4, .inl (cJ, 16, .inr (.inl (fun _ => 0)))), (q_5, .inl (cT, 4, .inr (.inr (.inr (.inr (va_up (fun _ => none) 0 (some q_7))))))), (q_7, .inr (0, [.ref q_8, .ref q_9, .long 0, .int 0])), (q_8, .inl (cJ, 16, .inr (.inl (fun _ => 0)))), (q_9, .inl (cJ, 16, .inr (.inl (fun _ => 0))))] H := hP
    have hD : va_D A [(h, .inr (1, [.ref q_1, .ref q_2, .ref q_3, .int 0, .ref q_4, .int 0, .ref q_5])), (q_1, .inl (cJ, 500, .inr (.inl (fun _ => 0)))), (q_2, .inl (cJ, 500, .inr (.inl (fun _ => 0)))), (q_3, .inl (cI, 500, .inl (fun _ => 0))), (q_4, .inl (cJ, 16, .inr (.inl (fun _ => 0)))), (q_5, .inl (cT, 4, .inr (.inr (.inr (.inr (va_up (fun _ => none) 0 (some q_7))))))), (q_7, .inr (0, [.ref q_8, .ref q_9, .long 0, .int 0])), (q_8, .inl (cJ, 16, .inr (.inl (fun _ => 0)))), (q_9, .inl (cJ, 16, .inr (.inl (fun _ => 0))))] := hD
    refine lv_iinc (v := 1) (lv' := [(1, .int 1), (0, .ref h)]) hx hb d_X_init_67 hl (k := 0) rfl (by decide) (by decide) rfl (fun ls hl => ?_)
    refine lv_goto (tgt := 49) hx hb d_X_init_70 (by decide) ?_
    refine lv_iload_n hx hb d_X_init_49 rfl (lv_at hl 0 rfl) ?_
    refine lv_iconst (v := 4) hx hb d_X_init_50 (by decide) ?_
    refine lv_icmp_ge (tgt := 73) hx hb d_X_init_51 (by decide) (fun c_10 => ?_) (fun c_10 => ?_)
    · skip
      exact absurd c_10 (by decide)
    · skip
      refine lv_aload_n hx hb d_X_init_54 rfl (lv_at hl 1 rfl) ?_
      refine va_get (D := (dC, dI)) (ci := 1) (v := .ref q_5) (C := R_X) (T := F_X) (N := 7) hx hb hg in_X hown hK hP 0 rfl rfl 6 (by decide) (hg _ wg_52) (fun _ h9 => h9) rfl d_X_init_55 ?_
      refine lv_iload_n hx hb d_X_init_58 rfl (lv_at hl 0 rfl) ?_
      refine va_new (ci := 0) (fs := [.null, .null, .long 0, .int 0]) (C := R_T) (T := F_T) (N := 4) hx hb hg in_T tt_T tt_T_ok hown (hg _ wg_31) (hg _ wg_32) (hg _ wg_14) hK hP hD hS hA rfl (fun j hj => by rcases (show j = 0 ∨ j = 1 ∨ j = 2 ∨ j = 3 by omega) with rfl | rfl | rfl | rfl <;> rfl) (Nat.le_of_ble_eq_true rfl) (Nat.le_of_ble_eq_true rfl) d_X_init_59 (fun q_11 H hP hD hS => ?_)
      have hP : va_P (dC, dI) classes [(h, .inr (1, [.ref q_1, .ref q_2, .ref q_3, .int 0, .ref q_4, .int 0, .ref q_5])), (q_1, .inl (cJ, 500, .inr (.inl (fun _ => 0)))), (q_2, .inl (cJ, 500, .inr (.inl (fun _ => 0)))), (q_3, .inl (cI, 500, .inl (fun _ => 0))), (q_4, .inl (cJ, 16, .inr (.inl (fun _ => 0)))), (q_5, .inl (cT, 4, .inr (.inr (.inr (.inr (va_up (fun _ => none) 0 (some q_7))))))), (q_7, .inr (0, [.ref q_8, .ref q_9, .long 0, .int 0])), (q_8, .inl (cJ, 16, .inr (.inl (fun _ => 0)))), (q_9, .inl (cJ, 16, .inr (.inl (fun _ => 0)))), (q_11, .inr (0, [.null, .null, .long 0, .int 0]))] H := hP
      have hD : va_D A [(h, .inr (1, [.ref q_1, .ref q_2, .ref q_3, .int 0, .ref q_4, .int 0, .ref q_5])), (q_1, .inl (cJ, 500, .inr (.inl (fun _ => 0)))), (q_2, .inl (cJ, 500, .inr (.inl (fun _ => 0)))), (q_3, .inl (cI, 500, .inl (fun _ => 0))), (q_4, .inl (cJ, 16, .inr (.inl (fun _ => 0)))), (q_5, .inl (cT, 4, .inr (.inr (.inr (.inr (va_up (fun _ => none) 0 (some q_7))))))), (q_7, .inr (0, [.ref q_8, .ref q_9, .long 0, .int 0])), (q_8, .inl (cJ, 16, .inr (.inl (fun _ => 0)))), (q_9, .inl (cJ, 16, .inr (.inl (fun _ => 0)))), (q_11, .inr (0, [.null, .null, .long 0, .int 0]))] := hD
      refine lv_dup hx hb d_X_init_62 rfl ?_
      have hPc := hP.sub (ws' := [(q_11, .inr (0, [.null, .null, .long 0, .int 0]))]) [9] rfl
      have hDc := hD.sub (ws' := [(q_11, .inr (0, [.null, .null, .long 0, .int 0]))]) [9] (by decide) rfl
      have hFc := va_free (wc := [(q_11, .inr (0, [.null, .null, .long 0, .int 0]))]) hD hS hA [9] rfl
      refine va_callv (va_runIN (As := []) (rest := [.ref q_11, .int 1, .ref q_5]) ⟨hx, hb, hml, hown, hg⟩ (k_T_init l dC dI cJ cI cT q_11 _) ⟨q_N 0 hg wg_34 (hN _ nw_0) wg_14 rfl rfl (by decide +kernel) ⟨(Nat.le_of_ble_eq_true rfl), (Nat.le_of_ble_eq_true rfl)⟩, rfl, hg _ wg_33⟩ ⟨wx_blind, wx_pre (as := [.ref q_11]) hPc hK hDc⟩ rfl rfl hl.1 rfl (lv_room (Nat.le_of_ble_eq_true rfl)) d_X_init_63 ⟨(Nat.le_of_ble_eq_true rfl), (Nat.le_of_ble_eq_true rfl)⟩) hS (fun q _ h => hFc q h) hFc (fun u t H1 locs ht hvm hw hB hz1 hk1 hS => ?_)
      obtain ⟨q_12, q_13⟩ := u
      obtain ⟨hP1, hK1, hD1⟩ := hB
      rw [ht] at hP1
      obtain ⟨hP, hD⟩ := va_join (wr := [(h, .inr (1, [.ref q_1, .ref q_2, .ref q_3, .int 0, .ref q_4, .int 0, .ref q_5])), (q_1, .inl (cJ, 500, .inr (.inl (fun _ => 0)))), (q_2, .inl (cJ, 500, .inr (.inl (fun _ => 0)))), (q_3, .inl (cI, 500, .inl (fun _ => 0))), (q_4, .inl (cJ, 16, .inr (.inl (fun _ => 0)))), (q_5, .inl (cT, 4, .inr (.inr (.inr (.inr (va_up (fun _ => none) 0 (some q_7))))))), (q_7, .inr (0, [.ref q_8, .ref q_9, .long 0, .int 0])), (q_8, .inl (cJ, 16, .inr (.inl (fun _ => 0)))), (q_9, .inl (cJ, 16, .inr (.inl (fun _ => 0))))]) (w1 := [(q_11, .inr (0, [.ref q_12, .ref q_13, .long 0, .int 0])), (q_12, .inl (cJ, 16, .inr (.inl (fun _ => 0)))), (q_13, .inl (cJ, 16, .inr (.inl (fun _ => 0))))]) hP hD [9] [0, 1, 2, 3, 4, 5, 6, 7, 8] rfl rfl (by decide) (by decide) hk1 hFc hP1 hD1
      generalize H1 = H at hP hS ⊢
      have hP : va_P (dC, dI) classes [(h, .inr (1, [.ref q_1, .ref q_2, .ref q_3, .int 0, .ref q_4, .int 0, .ref q_5])), (q_1, .inl (cJ, 500, .inr (.inl (fun _ => 0)))), (q_2, .inl (cJ, 500, .inr (.inl (fun _ => 0)))), (q_3, .inl (cI, 500, .inl (fun _ => 0))), (q_4, .inl (cJ, 16, .inr (.inl (fun _ => 0)))), (q_5, .inl (cT, 4, .inr (.inr (.inr (.inr (va_up (fun _ => none) 0 (some q_7))))))), (q_7, .inr (0, [.ref q_8, .ref q_9, .long 0, .int 0])), (q_8, .inl (cJ, 16, .inr (.inl (fun _ => 0)))), (q_9, .inl (cJ, 16, .inr (.inl (fun _ => 0)))), (q_11, .inr (0, [.ref q_12, .ref q_13, .long 0, .int 0])), (q_12, .inl (cJ, 16, .inr (.inl (fun _ => 0)))), (q_13, .inl (cJ, 16, .inr (.inl (fun _ => 0))))] H := hP
      have hD : va_D A [(h, .inr (1, [.ref q_1, .ref q_2, .ref q_3, .int 0, .ref q_4, .int 0, .ref q_5])), (q_1, .inl (cJ, 500, .inr (.inl (fun _ => 0)))), (q_2, .inl (cJ, 500, .inr (.inl (fun _ => 0)))), (q_3, .inl (cI, 500, .inl (fun _ => 0))), (q_4, .inl (cJ, 16, .inr (.inl (fun _ => 0)))), (q_5, .inl (cT, 4, .inr (.inr (.inr (.inr (va_up (fun _ => none) 0 (some q_7))))))), (q_7, .inr (0, [.ref q_8, .ref q_9, .long 0, .int 0])), (q_8, .inl (cJ, 16, .inr (.inl (fun _ => 0)))), (q_9, .inl (cJ, 16, .inr (.inl (fun _ => 0)))), (q_11, .inr (0, [.ref q_12, .ref q_13, .long 0, .int 0])), (q_12, .inl (cJ, 16, .inr (.inl (fun _ => 0)))), (q_13, .inl (cJ, 16, .inr (.inl (fun _ => 0))))] := hD
      refine va_astq hx hb hK hP hD hS 5 2 9 0 rfl rfl rfl rfl (by unfold vp_in; decide) d_X_init_66 (fun H locs hP hD hS => ?_)
      have hP : va_P (dC, dI) classes [(h, .inr (1, [.ref q_1, .ref q_2, .ref q_3, .int 0, .ref q_4, .int 0, .ref q_5])), (q_1, .inl (cJ, 500, .inr (.inl (fun _ => 0)))), (q_2, .inl (cJ, 500, .inr (.inl (fun _ => 0)))), (q_3, .inl (cI, 500, .inl (fun _ => 0))), (q_4, .inl (cJ, 16, .inr (.inl (fun _ => 0)))), (q_5, .inl (cT, 4, .inr (.inr (.inr (.inr (va_up (va_up (fun _ => none) 0 (some q_7)) 1 (some q_11))))))), (q_7, .inr (0, [.ref q_8, .ref q_9, .long 0, .int 0])), (q_8, .inl (cJ, 16, .inr (.inl (fun _ => 0)))), (q_9, .inl (cJ, 16, .inr (.inl (fun _ => 0)))), (q_11, .inr (0, [.ref q_12, .ref q_13, .long 0, .int 0])), (q_12, .inl (cJ, 16, .inr (.inl (fun _ => 0)))), (q_13, .inl (cJ, 16, .inr (.inl (fun _ => 0))))] H := hP
      have hD : va_D A [(h, .inr (1, [.ref q_1, .ref q_2, .ref q_3, .int 0, .ref q_4, .int 0, .ref q_5])), (q_1, .inl (cJ, 500, .inr (.inl (fun _ => 0)))), (q_2, .inl (cJ, 500, .inr (.inl (fun _ => 0)))), (q_3, .inl (cI, 500, .inl (fun _ => 0))), (q_4, .inl (cJ, 16, .inr (.inl (fun _ => 0)))), (q_5, .inl (cT, 4, .inr (.inr (.inr (.inr (va_up (va_up (fun _ => none) 0 (some q_7)) 1 (some q_11))))))), (q_7, .inr (0, [.ref q_8, .ref q_9, .long 0, .int 0])), (q_8, .inl (cJ, 16, .inr (.inl (fun _ => 0)))), (q_9, .inl (cJ, 16, .inr (.inl (fun _ => 0)))), (q_11, .inr (0, [.ref q_12, .ref q_13, .long 0, .int 0])), (q_12, .inl (cJ, 16, .inr (.inl (fun _ => 0)))), (q_13, .inl (cJ, 16, .inr (.inl (fun _ => 0))))] := hD
      refine lv_iinc (v := 2) (lv' := [(1, .int 2), (0, .ref h)]) hx hb d_X_init_67 hl (k := 0) rfl (by decide) (by decide) rfl (fun ls hl => ?_)
      refine lv_goto (tgt := 49) hx hb d_X_init_70 (by decide) ?_
      refine lv_iload_n hx hb d_X_init_49 rfl (lv_at hl 0 rfl) ?_
      refine lv_iconst (v := 4) hx hb d_X_init_50 (by decide) ?_
      refine lv_icmp_ge (tgt := 73) hx hb d_X_init_51 (by decide) (fun c_14 => ?_) (fun c_14 => ?_)
      · skip
        exact absurd c_14 (by decide)
      · skip
        refine lv_aload_n hx hb d_X_init_54 rfl (lv_at hl 1 rfl) ?_
        refine va_get (D := (dC, dI)) (ci := 1) (v := .ref q_5) (C := R_X) (T := F_X) (N := 7) hx hb hg in_X hown hK hP 0 rfl rfl 6 (by decide) (hg _ wg_52) (fun _ h9 => h9) rfl d_X_init_55 ?_
        refine lv_iload_n hx hb d_X_init_58 rfl (lv_at hl 0 rfl) ?_
        refine va_new (ci := 0) (fs := [.null, .null, .long 0, .int 0]) (C := R_T) (T := F_T) (N := 4) hx hb hg in_T tt_T tt_T_ok hown (hg _ wg_31) (hg _ wg_32) (hg _ wg_14) hK hP hD hS hA rfl (fun j hj => by rcases (show j = 0 ∨ j = 1 ∨ j = 2 ∨ j = 3 by omega) with rfl | rfl | rfl | rfl <;> rfl) (Nat.le_of_ble_eq_true rfl) (Nat.le_of_ble_eq_true rfl) d_X_init_59 (fun q_15 H hP hD hS => ?_)
        have hP : va_P (dC, dI) classes [(h, .inr (1, [.ref q_1, .ref q_2, .ref q_3, .int 0, .ref q_4, .int 0, .ref q_5])), (q_1, .inl (cJ, 500, .inr (.inl (fun _ => 0)))), (q_2, .inl (cJ, 500, .inr (.inl (fun _ => 0)))), (q_3, .inl (cI, 500, .inl (fun _ => 0))), (q_4, .inl (cJ, 16, .inr (.inl (fun _ => 0)))), (q_5, .inl (cT, 4, .inr (.inr (.inr (.inr (va_up (va_up (fun _ => none) 0 (some q_7)) 1 (some q_11))))))), (q_7, .inr (0, [.ref q_8, .ref q_9, .long 0, .int 0])), (q_8, .inl (cJ, 16, .inr (.inl (fun _ => 0)))), (q_9, .inl (cJ, 16, .inr (.inl (fun _ => 0)))), (q_11, .inr (0, [.ref q_12, .ref q_13, .long 0, .int 0])), (q_12, .inl (cJ, 16, .inr (.inl (fun _ => 0)))), (q_13, .inl (cJ, 16, .inr (.inl (fun _ => 0)))), (q_15, .inr (0, [.null, .null, .long 0, .int 0]))] H := hP
        have hD : va_D A [(h, .inr (1, [.ref q_1, .ref q_2, .ref q_3, .int 0, .ref q_4, .int 0, .ref q_5])), (q_1, .inl (cJ, 500, .inr (.inl (fun _ => 0)))), (q_2, .inl (cJ, 500, .inr (.inl (fun _ => 0)))), (q_3, .inl (cI, 500, .inl (fun _ => 0))), (q_4, .inl (cJ, 16, .inr (.inl (fun _ => 0)))), (q_5, .inl (cT, 4, .inr (.inr (.inr (.inr (va_up (va_up (fun _ => none) 0 (some q_7)) 1 (some q_11))))))), (q_7, .inr (0, [.ref q_8, .ref q_9, .long 0, .int 0])), (q_8, .inl (cJ, 16, .inr (.inl (fun _ => 0)))), (q_9, .inl (cJ, 16, .inr (.inl (fun _ => 0)))), (q_11, .inr (0, [.ref q_12, .ref q_13, .long 0, .int 0])), (q_12, .inl (cJ, 16, .inr (.inl (fun _ => 0)))), (q_13, .inl (cJ, 16, .inr (.inl (fun _ => 0)))), (q_15, .inr (0, [.null, .null, .long 0, .int 0]))] := hD
        refine lv_dup hx hb d_X_init_62 rfl ?_
        have hPc := hP.sub (ws' := [(q_15, .inr (0, [.null, .null, .long 0, .int 0]))]) [12] rfl
        have hDc := hD.sub (ws' := [(q_15, .inr (0, [.null, .null, .long 0, .int 0]))]) [12] (by decide) rfl
        have hFc := va_free (wc := [(q_15, .inr (0, [.null, .null, .long 0, .int 0]))]) hD hS hA [12] rfl
        refine va_callv (va_runIN (As := []) (rest := [.ref q_15, .int 2, .ref q_5]) ⟨hx, hb, hml, hown, hg⟩ (k_T_init l dC dI cJ cI cT q_15 _) ⟨q_N 0 hg wg_34 (hN _ nw_0) wg_14 rfl rfl (by decide +kernel) ⟨(Nat.le_of_ble_eq_true rfl), (Nat.le_of_ble_eq_true rfl)⟩, rfl, hg _ wg_33⟩ ⟨wx_blind, wx_pre (as := [.ref q_15]) hPc hK hDc⟩ rfl rfl hl.1 rfl (lv_room (Nat.le_of_ble_eq_true rfl)) d_X_init_63 ⟨(Nat.le_of_ble_eq_true rfl), (Nat.le_of_ble_eq_true rfl)⟩) hS (fun q _ h => hFc q h) hFc (fun u t H1 locs ht hvm hw hB hz1 hk1 hS => ?_)
        obtain ⟨q_16, q_17⟩ := u
        obtain ⟨hP1, hK1, hD1⟩ := hB
        rw [ht] at hP1
        obtain ⟨hP, hD⟩ := va_join (wr := [(h, .inr (1, [.ref q_1, .ref q_2, .ref q_3, .int 0, .ref q_4, .int 0, .ref q_5])), (q_1, .inl (cJ, 500, .inr (.inl (fun _ => 0)))), (q_2, .inl (cJ, 500, .inr (.inl (fun _ => 0)))), (q_3, .inl (cI, 500, .inl (fun _ => 0))), (q_4, .inl (cJ, 16, .inr (.inl (fun _ => 0)))), (q_5, .inl (cT, 4, .inr (.inr (.inr (.inr (va_up (va_up (fun _ => none) 0 (some q_7)) 1 (some q_11))))))), (q_7, .inr (0, [.ref q_8, .ref q_9, .long 0, .int 0])), (q_8, .inl (cJ, 16, .inr (.inl (fun _ => 0)))), (q_9, .inl (cJ, 16, .inr (.inl (fun _ => 0)))), (q_11, .inr (0, [.ref q_12, .ref q_13, .long 0, .int 0])), (q_12, .inl (cJ, 16, .inr (.inl (fun _ => 0)))), (q_13, .inl (cJ, 16, .inr (.inl (fun _ => 0))))]) (w1 := [(q_15, .inr (0, [.ref q_16, .ref q_17, .long 0, .int 0])), (q_16, .inl (cJ, 16, .inr (.inl (fun _ => 0)))), (q_17, .inl (cJ, 16, .inr (.inl (fun _ => 0))))]) hP hD [12] [0, 1, 2, 3, 4, 5, 6, 7, 8, 9, 10, 11] rfl rfl (by decide) (by decide) hk1 hFc hP1 hD1
        generalize H1 = H at hP hS ⊢
        have hP : va_P (dC, dI) classes [(h, .inr (1, [.ref q_1, .ref q_2, .ref q_3, .int 0, .ref q_4, .int 0, .ref q_5])), (q_1, .inl (cJ, 500, .inr (.inl (fun _ => 0)))), (q_2, .inl (cJ, 500, .inr (.inl (fun _ => 0)))), (q_3, .inl (cI, 500, .inl (fun _ => 0))), (q_4, .inl (cJ, 16, .inr (.inl (fun _ => 0)))), (q_5, .inl (cT, 4, .inr (.inr (.inr (.inr (va_up (va_up (fun _ => none) 0 (some q_7)) 1 (some q_11))))))), (q_7, .inr (0, [.ref q_8, .ref q_9, .long 0, .int 0])), (q_8, .inl (cJ, 16, .inr (.inl (fun _ => 0)))), (q_9, .inl (cJ, 16, .inr (.inl (fun _ => 0)))), (q_11, .inr (0, [.ref q_12, .ref q_13, .long 0, .int 0])), (q_12, .inl (cJ, 16, .inr (.inl (fun _ => 0)))), (q_13, .inl (cJ, 16, .inr (.inl (fun _ => 0)))), (q_15, .inr (0, [.ref q_16, .ref q_17, .long 0, .int 0])), (q_16, .inl (cJ, 16, .inr (.inl (fun _ => 0)))), (q_17, .inl (cJ, 16, .inr (.inl (fun _ => 0))))] H := hP
        have hD : va_D A [(h, .inr (1, [.ref q_1, .ref q_2, .ref q_3, .int 0, .ref q_4, .int 0, .ref q_5])), (q_1, .inl (cJ, 500, .inr (.inl (fun _ => 0)))), (q_2, .inl (cJ, 500, .inr (.inl (fun _ => 0)))), (q_3, .inl (cI, 500, .inl (fun _ => 0))), (q_4, .inl (cJ, 16, .inr (.inl (fun _ => 0)))), (q_5, .inl (cT, 4, .inr (.inr (.inr (.inr (va_up (va_up (fun _ => none) 0 (some q_7)) 1 (some q_11))))))), (q_7, .inr (0, [.ref q_8, .ref q_9, .long 0, .int 0])), (q_8, .inl (cJ, 16, .inr (.inl (fun _ => 0)))), (q_9, .inl (cJ, 16, .inr (.inl (fun _ => 0)))), (q_11, .inr (0, [.ref q_12, .ref q_13, .long 0, .int 0])), (q_12, .inl (cJ, 16, .inr (.inl (fun _ => 0)))), (q_13, .inl (cJ, 16, .inr (.inl (fun _ => 0)))), (q_15, .inr (0, [.ref q_16, .ref q_17, .long 0, .int 0])), (q_16, .inl (cJ, 16, .inr (.inl (fun _ => 0)))), (q_17, .inl (cJ, 16, .inr (.inl (fun _ => 0))))] := hD
        refine va_astq hx hb hK hP hD hS 5 2 12 0 rfl rfl rfl rfl (by unfold vp_in; decide) d_X_init_66 (fun H locs hP hD hS => ?_)
        have hP : va_P (dC, dI) classes [(h, .inr (1, [.ref q_1, .ref q_2, .ref q_3, .int 0, .ref q_4, .int 0, .ref q_5])), (q_1, .inl (cJ, 500, .inr (.inl (fun _ => 0)))), (q_2, .inl (cJ, 500, .inr (.inl (fun _ => 0)))), (q_3, .inl (cI, 500, .inl (fun _ => 0))), (q_4, .inl (cJ, 16, .inr (.inl (fun _ => 0)))), (q_5, .inl (cT, 4, .inr (.inr (.inr (.inr (va_up (va_up (va_up (fun _ => none) 0 (some q_7)) 1 (some q_11)) 2 (some q_15))))))), (q_7, .inr (0, [.ref q_8, .ref q_9, .long 0, .int 0])), (q_8, .inl (cJ, 16, .inr (.inl (fun _ => 0)))), (q_9, .inl (cJ, 16, .inr (.inl (fun _ => 0)))), (q_11, .inr (0, [.ref q_12, .ref q_13, .long 0, .int 0])), (q_12, .inl (cJ, 16, .inr (.inl (fun _ => 0)))), (q_13, .inl (cJ, 16, .inr (.inl (fun _ => 0)))), (q_15, .inr (0, [.ref q_16, .ref q_17, .long 0, .int 0])), (q_16, .inl (cJ, 16, .inr (.inl (fun _ => 0)))), (q_17, .inl (cJ, 16, .inr (.inl (fun _ => 0))))] H := hP
        have hD : va_D A [(h, .inr (1, [.ref q_1, .ref q_2, .ref q_3, .int 0, .ref q_4, .int 0, .ref q_5])), (q_1, .inl (cJ, 500, .inr (.inl (fun _ => 0)))), (q_2, .inl (cJ, 500, .inr (.inl (fun _ => 0)))), (q_3, .inl (cI, 500, .inl (fun _ => 0))), (q_4, .inl (cJ, 16, .inr (.inl (fun _ => 0)))), (q_5, .inl (cT, 4, .inr (.inr (.inr (.inr (va_up (va_up (va_up (fun _ => none) 0 (some q_7)) 1 (some q_11)) 2 (some q_15))))))), (q_7, .inr (0, [.ref q_8, .ref q_9, .long 0, .int 0])), (q_8, .inl (cJ, 16, .inr (.inl (fun _ => 0)))), (q_9, .inl (cJ, 16, .inr (.inl (fun _ => 0)))), (q_11, .inr (0, [.ref q_12, .ref q_13, .long 0, .int 0])), (q_12, .inl (cJ, 16, .inr (.inl (fun _ => 0)))), (q_13, .inl (cJ, 16, .inr (.inl (fun _ => 0)))), (q_15, .inr (0, [.ref q_16, .ref q_17, .long 0, .int 0])), (q_16, .inl (cJ, 16, .inr (.inl (fun _ => 0)))), (q_17, .inl (cJ, 16, .inr (.inl (fun _ => 0))))] := hD
        refine lv_iinc (v := 3) (lv' := [(1, .int 3), (0, .ref h)]) hx hb d_X_init_67 hl (k := 0) rfl (by decide) (by decide) rfl (fun ls hl => ?_)
        refine lv_goto (tgt := 49) hx hb d_X_init_70 (by decide) ?_
        refine lv_iload_n hx hb d_X_init_49 rfl (lv_at hl 0 rfl) ?_
        refine lv_iconst (v := 4) hx hb d_X_init_50 (by decide) ?_
        refine lv_icmp_ge (tgt := 73) hx hb d_X_init_51 (by decide) (fun c_18 => ?_) (fun c_18 => ?_)
        · skip
          exact absurd c_18 (by decide)
        · skip
          refine lv_aload_n hx hb d_X_init_54 rfl (lv_at hl 1 rfl) ?_
          refine va_get (D := (dC, dI)) (ci := 1) (v := .ref q_5) (C := R_X) (T := F_X) (N := 7) hx hb hg in_X hown hK hP 0 rfl rfl 6 (by decide) (hg _ wg_52) (fun _ h9 => h9) rfl d_X_init_55 ?_
          refine lv_iload_n hx hb d_X_init_58 rfl (lv_at hl 0 rfl) ?_
          refine va_new (ci := 0) (fs := [.null, .null, .long 0, .int 0]) (C := R_T) (T := F_T) (N := 4) hx hb hg in_T tt_T tt_T_ok hown (hg _ wg_31) (hg _ wg_32) (hg _ wg_14) hK hP hD hS hA rfl (fun j hj => by rcases (show j = 0 ∨ j = 1 ∨ j = 2 ∨ j = 3 by omega) with rfl | rfl | rfl | rfl <;> rfl) (Nat.le_of_ble_eq_true rfl) (Nat.le_of_ble_eq_true rfl) d_X_init_59 (fun q_19 H hP hD hS => ?_)
          have hP : va_P (dC, dI) classes [(h, .inr (1, [.ref q_1, .ref q_2, .ref q_3, .int 0, .ref q_4, .int 0, .ref q_5])), (q_1, .inl (cJ, 500, .inr (.inl (fun _ => 0)))), (q_2, .inl (cJ, 500, .inr (.inl (fun _ => 0)))), (q_3, .inl (cI, 500, .inl (fun _ => 0))), (q_4, .inl (cJ, 16, .inr (.inl (fun _ => 0)))), (q_5, .inl (cT, 4, .inr (.inr (.inr (.inr (va_up (va_up (va_up (fun _ => none) 0 (some q_7)) 1 (some q_11)) 2 (some q_15))))))), (q_7, .inr (0, [.ref q_8, .ref q_9, .long 0, .int 0])), (q_8, .inl (cJ, 16, .inr (.inl (fun _ => 0)))), (q_9, .inl (cJ, 16, .inr (.inl (fun _ => 0)))), (q_11, .inr (0, [.ref q_12, .ref q_13, .long 0, .int 0])), (q_12, .inl (cJ, 16, .inr (.inl (fun _ => 0)))), (q_13, .inl (cJ, 16, .inr (.inl (fun _ => 0)))), (q_15, .inr (0, [.ref q_16, .ref q_17, .long 0, .int 0])), (q_16, .inl (cJ, 16, .inr (.inl (fun _ => 0)))), (q_17, .inl (cJ, 16, .inr (.inl (fun _ => 0)))), (q_19, .inr (0, [.null, .null, .long 0, .int 0]))] H := hP
          have hD : va_D A [(h, .inr (1, [.ref q_1, .ref q_2, .ref q_3, .int 0, .ref q_4, .int 0, .ref q_5])), (q_1, .inl (cJ, 500, .inr (.inl (fun _ => 0)))), (q_2, .inl (cJ, 500, .inr (.inl (fun _ => 0)))), (q_3, .inl (cI, 500, .inl (fun _ => 0))), (q_4, .inl (cJ, 16, .inr (.inl (fun _ => 0)))), (q_5, .inl (cT, 4, .inr (.inr (.inr (.inr (va_up (va_up (va_up (fun _ => none) 0 (some q_7)) 1 (some q_11)) 2 (some q_15))))))), (q_7, .inr (0, [.ref q_8, .ref q_9, .long 0, .int 0])), (q_8, .inl (cJ, 16, .inr (.inl (fun _ => 0)))), (q_9, .inl (cJ, 16, .inr (.inl (fun _ => 0)))), (q_11, .inr (0, [.ref q_12, .ref q_13, .long 0, .int 0])), (q_12, .inl (cJ, 16, .inr (.inl (fun _ => 0)))), (q_13, .inl (cJ, 16, .inr (.inl (fun _ => 0)))), (q_15, .inr (0, [.ref q_16, .ref q_17, .long 0, .int 0])), (q_16, .inl (cJ, 16, .inr (.inl (fun _ => 0)))), (q_17, .inl (cJ, 16, .inr (.inl (fun _ => 0)))), (q_19, .inr (0, [.null, .null, .long 0, .int 0]))] := hD
          refine lv_dup hx hb d_X_init_62 rfl ?_
          have hPc := hP.sub (ws' := [(q_19, .inr (0, [.null, .null, .long 0, .int 0]))]) [15] rfl
          have hDc := hD.sub (ws' := [(q_19, .inr (0, [.null, .null, .long 0, .int 0]))]) [15] (by decide) rfl
          have hFc := va_free (wc := [(q_19, .inr (0, [.null, .null, .long 0, .int 0]))]) hD hS hA [15] rfl
          refine va_callv (va_runIN (As := []) (rest := [.ref q_19, .int 3, .ref q_5]) ⟨hx, hb, hml, hown, hg⟩ (k_T_init l dC dI cJ cI cT q_19 _) ⟨q_N 0 hg wg_34 (hN _ nw_0) wg_14 rfl rfl (by decide +kernel) ⟨(Nat.le_of_ble_eq_true rfl), (Nat.le_of_ble_eq_true rfl)⟩, rfl, hg _ wg_33⟩ ⟨wx_blind, wx_pre (as := [.ref q_19]) hPc hK hDc⟩ rfl rfl hl.1 rfl (lv_room (Nat.le_of_ble_eq_true rfl)) d_X_init_63 ⟨(Nat.le_of_ble_eq_true rfl), (Nat.le_of_ble_eq_true rfl)⟩) hS (fun q _ h => hFc q h) hFc (fun u t H1 locs ht hvm hw hB hz1 hk1 hS => ?_)
          obtain ⟨q_20, q_21⟩ := u
          obtain ⟨hP1, hK1, hD1⟩ := hB
          rw [ht] at hP1
          obtain ⟨hP, hD⟩ := va_join (wr := [(h, .inr (1, [.ref q_1, .ref q_2, .ref q_3, .int 0, .ref q_4, .int 0, .ref q_5])), (q_1, .inl (cJ, 500, .inr (.inl (fun _ => 0)))), (q_2, .inl (cJ, 500, .inr (.inl (fun _ => 0)))), (q_3, .inl (cI, 500, .inl (fun _ => 0))), (q_4, .inl (cJ, 16, .inr (.inl (fun _ => 0)))), (q_5, .inl (cT, 4, .inr (.inr (.inr (.inr (va_up (va_up (va_up (fun _ => none) 0 (some q_7)) 1 (some q_11)) 2 (some q_15))))))), (q_7, .inr (0, [.ref q_8, .ref q_9, .long 0, .int 0])), (q_8, .inl (cJ, 16, .inr (.inl (fun _ => 0)))), (q_9, .inl (cJ, 16, .inr (.inl (fun _ => 0)))), (q_11, .inr (0, [.ref q_12, .ref q_13, .long 0, .int 0])), (q_12, .inl (cJ, 16, .inr (.inl (fun _ => 0)))), (q_13, .inl (cJ, 16, .inr (.inl (fun _ => 0)))), (q_15, .inr (0, [.ref q_16, .ref q_17, .long 0, .int 0])), (q_16, .inl (cJ, 16, .inr (.inl (fun _ => 0)))), (q_17, .inl (cJ, 16, .inr (.inl (fun _ => 0))))]) (w1 := [(q_19, .inr (0, [.ref q_20, .ref q_21, .long 0, .int 0])), (q_20, .inl (cJ, 16, .inr (.inl (fun _ => 0)))), (q_21, .inl (cJ, 16, .inr (.inl (fun _ => 0))))]) hP hD [15] [0, 1, 2, 3, 4, 5, 6, 7, 8, 9, 10, 11, 12, 13, 14] rfl rfl (by decide) (by decide) hk1 hFc hP1 hD1
          generalize H1 = H at hP hS ⊢
          have hP : va_P (dC, dI) classes [(h, .inr (1, [.ref q_1, .ref q_2, .ref q_3, .int 0, .ref q_4, .int 0, .ref q_5])), (q_1, .inl (cJ, 500, .inr (.inl (fun _ => 0)))), (q_2, .inl (cJ, 500, .inr (.inl (fun _ => 0)))), (q_3, .inl (cI, 500, .inl (fun _ => 0))), (q_4, .inl (cJ, 16, .inr (.inl (fun _ => 0)))), (q_5, .inl (cT, 4, .inr (.inr (.inr (.inr (va_up (va_up (va_up (fun _ => none) 0 (some q_7)) 1 (some q_11)) 2 (some q_15))))))), (q_7, .inr (0, [.ref q_8, .ref q_9, .long 0, .int 0])), (q_8, .inl (cJ, 16, .inr (.inl (fun _ => 0)))), (q_9, .inl (cJ, 16, .inr (.inl (fun _ => 0)))), (q_11, .inr (0, [.ref q_12, .ref q_13, .long 0, .int 0])), (q_12, .inl (cJ, 16, .inr (.inl (fun _ => 0)))), (q_13, .inl (cJ, 16, .inr (.inl (fun _ => 0)))), (q_15, .inr (0, [.ref q_16, .ref q_17, .long 0, .int 0])), (q_16, .inl (cJ, 16, .inr (.inl (fun _ => 0)))), (q_17, .inl (cJ, 16, .inr (.inl (fun _ => 0)))), (q_19, .inr (0, [.ref q_20, .ref q_21, .long 0, .int 0])), (q_20, .inl (cJ, 16, .inr (.inl (fun _ => 0)))), (q_21, .inl (cJ, 16, .inr (.inl (fun _ => 0))))] H := hP
          have hD : va_D A [(h, .inr (1, [.ref q_1, .ref q_2, .ref q_3, .int 0, .ref q_4, .int 0, .ref q_5])), (q_1, .inl (cJ, 500, .inr (.inl (fun _ => 0)))), (q_2, .inl (cJ, 500, .inr (.inl (fun _ => 0)))), (q_3, .inl (cI, 500, .inl (fun _ => 0))), (q_4, .inl (cJ, 16, .inr (.inl (fun _ => 0)))), (q_5, .inl (cT, 4, .inr (.inr (.inr (.inr (va_up (va_up (va_up (fun _ => none) 0 (some q_7)) 1 (some q_11)) 2 (some q_15))))))), (q_7, .inr (0, [.ref q_8, .ref q_9, .long 0, .int 0])), (q_8, .inl (cJ, 16, .inr (.inl (fun _ => 0)))), (q_9, .inl (cJ, 16, .inr (.inl (fun _ => 0)))), (q_11, .inr (0, [.ref q_12, .ref q_13, .long 0, .int 0])), (q_12, .inl (cJ, 16, .inr (.inl (fun _ => 0)))), (q_13, .inl (cJ, 16, .inr (.inl (fun _ => 0)))), (q_15, .inr (0, [.ref q_16, .ref q_17, .long 0, .int 0])), (q_16, .inl (cJ, 16, .inr (.inl (fun _ => 0)))), (q_17, .inl (cJ, 16, .inr (.inl (fun _ => 0)))), (q_19, .inr (0, [.ref q_20, .ref q_21, .long 0, .int 0])), (q_20, .inl (cJ, 16, .inr (.inl (fun _ => 0)))), (q_21, .inl (cJ, 16, .inr (.inl (fun _ => 0))))] := hD
          refine va_astq hx hb hK hP hD hS 5 2 15 0 rfl rfl rfl rfl (by unfold vp_in; decide) d_X_init_66 (fun H locs hP hD hS => ?_)
          have hP : va_P (dC, dI) classes [(h, .inr (1, [.ref q_1, .ref q_2, .ref q_3, .int 0, .ref q_4, .int 0, .ref q_5])), (q_1, .inl (cJ, 500, .inr (.inl (fun _ => 0)))), (q_2, .inl (cJ, 500, .inr (.inl (fun _ => 0)))), (q_3, .inl (cI, 500, .inl (fun _ => 0))), (q_4, .inl (cJ, 16, .inr (.inl (fun _ => 0)))), (q_5, .inl (cT, 4, .inr (.inr (.inr (.inr (va_up (va_up (va_up (va_up (fun _ => none) 0 (some q_7)) 1 (some q_11)) 2 (some q_15)) 3 (some q_19))))))), (q_7, .inr (0, [.ref q_8, .ref q_9, .long 0, .int 0])), (q_8, .inl (cJ, 16, .inr (.inl (fun _ => 0)))), (q_9, .inl (cJ, 16, .inr (.inl (fun _ => 0)))), (q_11, .inr (0, [.ref q_12, .ref q_13, .long 0, .int 0])), (q_12, .inl (cJ, 16, .inr (.inl (fun _ => 0)))), (q_13, .inl (cJ, 16, .inr (.inl (fun _ => 0)))), (q_15, .inr (0, [.ref q_16, .ref q_17, .long 0, .int 0])), (q_16, .inl (cJ, 16, .inr (.inl (fun _ => 0)))), (q_17, .inl (cJ, 16, .inr (.inl (fun _ => 0)))), (q_19, .inr (0, [.ref q_20, .ref q_21, .long 0, .int 0])), (q_20, .inl (cJ, 16, .inr (.inl (fun _ => 0)))), (q_21, .inl (cJ, 16, .inr (.inl (fun _ => 0))))] H := hP
          have hD : va_D A [(h, .inr (1, [.ref q_1, .ref q_2, .ref q_3, .int 0, .ref q_4, .int 0, .ref q_5])), (q_1, .inl (cJ, 500, .inr (.inl (fun _ => 0)))), (q_2, .inl (cJ, 500, .inr (.inl (fun _ => 0)))), (q_3, .inl (cI, 500, .inl (fun _ => 0))), (q_4, .inl (cJ, 16, .inr (.inl (fun _ => 0)))), (q_5, .inl (cT, 4, .inr (.inr (.inr (.inr (va_up (va_up (va_up (va_up (fun _ => none) 0 (some q_7)) 1 (some q_11)) 2 (some q_15)) 3 (some q_19))))))), (q_7, .inr (0, [.ref q_8, .ref q_9, .long 0, .int 0])), (q_8, .inl (cJ, 16, .inr (.inl (fun _ => 0)))), (q_9, .inl (cJ, 16, .inr (.inl (fun _ => 0)))), (q_11, .inr (0, [.ref q_12, .ref q_13, .long 0, .int 0])), (q_12, .inl (cJ, 16, .inr (.inl (fun _ => 0)))), (q_13, .inl (cJ, 16, .inr (.inl (fun _ => 0)))), (q_15, .inr (0, [.ref q_16, .ref q_17, .long 0, .int 0])), (q_16, .inl (cJ, 16, .inr (.inl (fun _ => 0)))), (q_17, .inl (cJ, 16, .inr (.inl (fun _ => 0)))), (q_19, .inr (0, [.ref q_20, .ref q_21, .long 0, .int 0])), (q_20, .inl (cJ, 16, .inr (.inl (fun _ => 0)))), (q_21, .inl (cJ, 16, .inr (.inl (fun _ => 0))))] := hD
          refine lv_iinc (v := 4) (lv' := [(1, .int 4), (0, .ref h)]) hx hb d_X_init_67 hl (k := 0) rfl (by decide) (by decide) rfl (fun ls hl => ?_)
          refine lv_goto (tgt := 49) hx hb d_X_init_70 (by decide) ?_
          refine lv_iload_n hx hb d_X_init_49 rfl (lv_at hl 0 rfl) ?_
          refine lv_iconst (v := 4) hx hb d_X_init_50 (by decide) ?_
          refine lv_icmp_ge (tgt := 73) hx hb d_X_init_51 (by decide) (fun c_22 => ?_) (fun c_22 => ?_)
          · skip
            have hP9 := hP.sub (ws' := [(h, .inr (1, [.ref q_1, .ref q_2, .ref q_3, .int 0, .ref q_4, .int 0, .ref q_5])), (q_1, .inl (cJ, 500, .inr (.inl (fun _ => 0)))), (q_2, .inl (cJ, 500, .inr (.inl (fun _ => 0)))), (q_3, .inl (cI, 500, .inl (fun _ => 0))), (q_4, .inl (cJ, 16, .inr (.inl (fun _ => 0)))), (q_5, .inl (cT, 4, .inr (.inr (.inr (.inr (tf0 q_7 q_11 q_15 q_19)))))), (q_7, .inr (0, [.ref q_8, .ref q_9, .long 0, .int 0])), (q_8, .inl (cJ, 16, .inr (.inl (fun _ => 0)))), (q_9, .inl (cJ, 16, .inr (.inl (fun _ => 0)))), (q_11, .inr (0, [.ref q_12, .ref q_13, .long 0, .int 0])), (q_12, .inl (cJ, 16, .inr (.inl (fun _ => 0)))), (q_13, .inl (cJ, 16, .inr (.inl (fun _ => 0)))), (q_15, .inr (0, [.ref q_16, .ref q_17, .long 0, .int 0])), (q_16, .inl (cJ, 16, .inr (.inl (fun _ => 0)))), (q_17, .inl (cJ, 16, .inr (.inl (fun _ => 0)))), (q_19, .inr (0, [.ref q_20, .ref q_21, .long 0, .int 0])), (q_20, .inl (cJ, 16, .inr (.inl (fun _ => 0)))), (q_21, .inl (cJ, 16, .inr (.inl (fun _ => 0))))]) [0, 1, 2, 3, 4, 5, 6, 7, 8, 9, 10, 11, 12, 13, 14, 15, 16, 17] rfl
            have hD9 := hD.sub (ws' := [(h, .inr (1, [.ref q_1, .ref q_2, .ref q_3, .int 0, .ref q_4, .int 0, .ref q_5])), (q_1, .inl (cJ, 500, .inr (.inl (fun _ => 0)))), (q_2, .inl (cJ, 500, .inr (.inl (fun _ => 0)))), (q_3, .inl (cI, 500, .inl (fun _ => 0))), (q_4, .inl (cJ, 16, .inr (.inl (fun _ => 0)))), (q_5, .inl (cT, 4, .inr (.inr (.inr (.inr (tf0 q_7 q_11 q_15 q_19)))))), (q_7, .inr (0, [.ref q_8, .ref q_9, .long 0, .int 0])), (q_8, .inl (cJ, 16, .inr (.inl (fun _ => 0)))), (q_9, .inl (cJ, 16, .inr (.inl (fun _ => 0)))), (q_11, .inr (0, [.ref q_12, .ref q_13, .long 0, .int 0])), (q_12, .inl (cJ, 16, .inr (.inl (fun _ => 0)))), (q_13, .inl (cJ, 16, .inr (.inl (fun _ => 0)))), (q_15, .inr (0, [.ref q_16, .ref q_17, .long 0, .int 0])), (q_16, .inl (cJ, 16, .inr (.inl (fun _ => 0)))), (q_17, .inl (cJ, 16, .inr (.inl (fun _ => 0)))), (q_19, .inr (0, [.ref q_20, .ref q_21, .long 0, .int 0])), (q_20, .inl (cJ, 16, .inr (.inl (fun _ => 0)))), (q_21, .inl (cJ, 16, .inr (.inl (fun _ => 0))))]) [0, 1, 2, 3, 4, 5, 6, 7, 8, 9, 10, 11, 12, 13, 14, 15, 16, 17] (by decide) rfl
            refine W.widen (k := 17) (n := 1664) (Nat.le_of_ble_eq_true rfl) (Nat.le_of_ble_eq_true rfl) ?_
            exact W.vret hx hb hr (fun t ht hW => ⟨⟨(fun i => ([q_1, q_2, q_3, q_4, q_5, q_7, q_11, q_15, q_19, q_8, q_12, q_16, q_20, q_9, q_13, q_17, q_21] : List Nat).getD i 0), rfl, trivial, wb_of ht hW hP9 hK hD9⟩, hS.F ht⟩) hS.2.2 d_X_init_73
          · skip
            exact absurd (by decide) c_22
end
section
theorem nw_ot : ∀ w ∈ NWL, w.onTables = true := by decide +kernel
theorem nw_use {args : Array Value} {s : State} (hN : nwd s) {w : Cond} (h : w ∈ NWL) : w.before args s = true := va_Nw.use (nw_ot w h) (hN w h)
set_option maxHeartbeats 4000000 in
set_option maxRecDepth 100000 in
theorem own_AE : ∀ w ∈ Bundle.ownAtoms "LitreFractions" 34 "java/lang/ArithmeticException" ["java/lang/RuntimeException", "java/lang/Exception"], w ∈ WG ∨ w ∈ NWL ∨ ∃ z : Cond, w = z ∧ vx_no z = false := show ∀ w ∈ [(Cond.initialized "java/lang/Throwable"), (Cond.superclass "java/lang/Throwable" "java/lang/Object"), (Cond.instanceMethod ({ cls := "java/lang/Throwable", name := "fillInStackTrace", desc := "()Ljava/lang/Throwable;" } : Jvm.MethodName)), (Cond.codeSync ({ cls := "java/lang/Throwable", name := "fillInStackTrace", desc := "()Ljava/lang/Throwable;" } : Jvm.MethodName) prog_12_method_18_code (1 : Nat) (Option.some (Jvm.ClassFile.FieldType.object "java/lang/Throwable"))), (Cond.instanceMethod ({ cls := "java/lang/Throwable", name := "fillInStackTrace", desc := "(I)Ljava/lang/Throwable;" } : Jvm.MethodName)), (Cond.native ({ cls := "java/lang/Throwable", name := "fillInStackTrace", desc := "(I)Ljava/lang/Throwable;" } : Jvm.MethodName)), (Cond.instanceMethod ({ cls := "java/lang/Throwable", name := "<init>", desc := "()V" } : Jvm.MethodName)), (Cond.code ({ cls := "java/lang/Throwable", name := "<init>", desc := "()V" } : Jvm.MethodName) prog_12_method_1_code (1 : Nat) (Option.none : Option Jvm.ClassFile.FieldType)), (Cond.instanceMethod ({ cls := "java/lang/Object", name := "<init>", desc := "()V" } : Jvm.MethodName)), (Cond.code ({ cls := "java/lang/Object", name := "<init>", desc := "()V" } : Jvm.MethodName) object_method_1_code (1 : Nat) (Option.none : Option Jvm.ClassFile.FieldType)), (Cond.methodLink "java/lang/Throwable" (1 : Nat) ({ cls := "java/lang/Object", name := "<init>", desc := "()V" } : Jvm.MethodName)), (Cond.methodLink "java/lang/Throwable" (27 : Nat) ({ cls := "java/lang/Throwable", name := "fillInStackTrace", desc := "()Ljava/lang/Throwable;" } : Jvm.MethodName)), (Cond.methodLink "java/lang/Throwable" (202 : Nat) ({ cls := "java/lang/Throwable", name := "fillInStackTrace", desc := "(I)Ljava/lang/Throwable;" } : Jvm.MethodName)), (Cond.fieldLink "java/lang/Throwable" (7 : Nat) "java/lang/Throwable" "cause" "Ljava/lang/Throwable;"), (Cond.lays "java/lang/Throwable" "java/lang/Throwable" "cause" "Ljava/lang/Throwable;"), (Cond.fieldLink "java/lang/Throwable" (17 : Nat) "java/lang/Throwable" "stackTrace" "[Ljava/lang/StackTraceElement;"), (Cond.lays "java/lang/Throwable" "java/lang/Throwable" "stackTrace" "[Ljava/lang/StackTraceElement;"), (Cond.fieldLink "java/lang/Throwable" (24 : Nat) "java/lang/Throwable" "suppressedExceptions" "Ljava/util/List;"), (Cond.lays "java/lang/Throwable" "java/lang/Throwable" "suppressedExceptions" "Ljava/util/List;"), (Cond.fieldLink "java/lang/Throwable" (13 : Nat) "java/lang/Throwable" "UNASSIGNED_STACK" "[Ljava/lang/StackTraceElement;"), (Cond.laysStatic "java/lang/Throwable" "UNASSIGNED_STACK" "[Ljava/lang/StackTraceElement;"), (Cond.fieldLink "java/lang/Throwable" (20 : Nat) "java/lang/Throwable" "SUPPRESSED_SENTINEL" "Ljava/util/List;"), (Cond.laysStatic "java/lang/Throwable" "SUPPRESSED_SENTINEL" "Ljava/util/List;"), (Cond.lays "java/lang/Throwable" "java/lang/Throwable" "detailMessage" "Ljava/lang/String;"), (Cond.instanceMethod ({ cls := "java/lang/Throwable", name := "<init>", desc := "(Ljava/lang/String;)V" } : Jvm.MethodName)), (Cond.code ({ cls := "java/lang/Throwable", name := "<init>", desc := "(Ljava/lang/String;)V" } : Jvm.MethodName) prog_12_method_2_code (2 : Nat) (Option.none : Option Jvm.ClassFile.FieldType)), (Cond.fieldLink "java/lang/Throwable" (31 : Nat) "java/lang/Throwable" "detailMessage" "Ljava/lang/String;"), (Cond.lays "java/lang/Throwable" "java/lang/Throwable" "detailMessage" "Ljava/lang/String;"), (Cond.instanceMethod ({ cls := "java/lang/ArithmeticException", name := "<init>", desc := "(Ljava/lang/String;)V" } : Jvm.MethodName)), (Cond.code ({ cls := "java/lang/ArithmeticException", name := "<init>", desc := "(Ljava/lang/String;)V" } : Jvm.MethodName) prog_5_method_2_code (2 : Nat) (Option.none : Option Jvm.ClassFile.FieldType)), (Cond.methodLink "java/lang/ArithmeticException" (7 : Nat) ({ cls := "java/lang/RuntimeException", name := "<init>", desc := "(Ljava/lang/String;)V" } : Jvm.MethodName)), (Cond.instanceMethod ({ cls := "java/lang/RuntimeException", name := "<init>", desc := "(Ljava/lang/String;)V" } : Jvm.MethodName)), (Cond.declares ({ cls := "java/lang/RuntimeException", name := "<init>", desc := "(Ljava/lang/String;)V" } : Jvm.MethodName)), (Cond.instanceMethod ({ cls := "java/lang/RuntimeException", name := "<init>", desc := "(Ljava/lang/String;)V" } : Jvm.MethodName)), (Cond.code ({ cls := "java/lang/RuntimeException", name := "<init>", desc := "(Ljava/lang/String;)V" } : Jvm.MethodName) prog_10_method_2_code (2 : Nat) (Option.none : Option Jvm.ClassFile.FieldType)), (Cond.methodLink "java/lang/RuntimeException" (7 : Nat) ({ cls := "java/lang/Exception", name := "<init>", desc := "(Ljava/lang/String;)V" } : Jvm.MethodName)), (Cond.instanceMethod ({ cls := "java/lang/Exception", name := "<init>", desc := "(Ljava/lang/String;)V" } : Jvm.MethodName)), (Cond.declares ({ cls := "java/lang/Exception", name := "<init>", desc := "(Ljava/lang/String;)V" } : Jvm.MethodName)), (Cond.instanceMethod ({ cls := "java/lang/Exception", name := "<init>", desc := "(Ljava/lang/String;)V" } : Jvm.MethodName)), (Cond.code ({ cls := "java/lang/Exception", name := "<init>", desc := "(Ljava/lang/String;)V" } : Jvm.MethodName) prog_6_method_2_code (2 : Nat) (Option.none : Option Jvm.ClassFile.FieldType)), (Cond.methodLink "java/lang/Exception" (7 : Nat) ({ cls := "java/lang/Throwable", name := "<init>", desc := "(Ljava/lang/String;)V" } : Jvm.MethodName)), (Cond.instanceMethod ({ cls := "java/lang/Throwable", name := "<init>", desc := "(Ljava/lang/String;)V" } : Jvm.MethodName)), (Cond.declares ({ cls := "java/lang/Throwable", name := "<init>", desc := "(Ljava/lang/String;)V" } : Jvm.MethodName)), (Cond.methodLink "LitreFractions" (34 : Nat) ({ cls := "java/lang/ArithmeticException", name := "<init>", desc := "(Ljava/lang/String;)V" } : Jvm.MethodName)), (Cond.instantiable "java/lang/ArithmeticException" (6 : Nat)), (Cond.castable "java/lang/ArithmeticException" "java/lang/ArithmeticException"), (Cond.selects "java/lang/ArithmeticException" ({ cls := "java/lang/Throwable", name := "fillInStackTrace", desc := "(I)Ljava/lang/Throwable;" } : Jvm.MethodName) ({ cls := "java/lang/Throwable", name := "fillInStackTrace", desc := "(I)Ljava/lang/Throwable;" } : Jvm.MethodName)), (Cond.selects "java/lang/ArithmeticException" ({ cls := "java/lang/Throwable", name := "fillInStackTrace", desc := "()Ljava/lang/Throwable;" } : Jvm.MethodName) ({ cls := "java/lang/Throwable", name := "fillInStackTrace", desc := "()Ljava/lang/Throwable;" } : Jvm.MethodName)), (Cond.lays "java/lang/ArithmeticException" "java/lang/Throwable" "cause" "Ljava/lang/Throwable;"), (Cond.lays "java/lang/ArithmeticException" "java/lang/Throwable" "stackTrace" "[Ljava/lang/StackTraceElement;"), (Cond.lays "java/lang/ArithmeticException" "java/lang/Throwable" "suppressedExceptions" "Ljava/util/List;"), (Cond.lays "java/lang/ArithmeticException" "java/lang/Throwable" "detailMessage" "Ljava/lang/String;"), Cond.isRef (.static "java/lang/Throwable" "UNASSIGNED_STACK" "[Ljava/lang/StackTraceElement;"), Cond.isRef (.static "java/lang/Throwable" "SUPPRESSED_SENTINEL" "Ljava/util/List;"), (Cond.fieldLink "java/lang/Throwable" (198 : Nat) "java/lang/Throwable" "backtrace" "Ljava/lang/Object;"), (Cond.lays "java/lang/Throwable" "java/lang/Throwable" "backtrace" "Ljava/lang/Object;"), (Cond.lays "java/lang/ArithmeticException" "java/lang/Throwable" "backtrace" "Ljava/lang/Object;")], w ∈ WG ∨ w ∈ NWL ∨ ∃ z : Cond, w = z ∧ vx_no z = false from List.forall_mem_cons.mpr ⟨Or.inl wg_16, List.forall_mem_cons.mpr ⟨Or.inl (WG_at 228 rfl rfl), List.forall_mem_cons.mpr ⟨Or.inl wg_195, List.forall_mem_cons.mpr ⟨Or.inl (WG_at 240 rfl rfl), List.forall_mem_cons.mpr ⟨Or.inl wg_198, List.forall_mem_cons.mpr ⟨Or.inl (WG_at 245 rfl rfl), List.forall_mem_cons.mpr ⟨Or.inl wg_189, List.forall_mem_cons.mpr ⟨Or.inl wg_190, List.forall_mem_cons.mpr ⟨Or.inl wg_29, List.forall_mem_cons.mpr ⟨Or.inl wg_30, List.forall_mem_cons.mpr ⟨Or.inl wg_191, List.forall_mem_cons.mpr ⟨Or.inl wg_194, List.forall_mem_cons.mpr ⟨Or.inl wg_197, List.forall_mem_cons.mpr ⟨Or.inl wg_214, List.forall_mem_cons.mpr ⟨Or.inl wg_179, List.forall_mem_cons.mpr ⟨Or.inl wg_215, List.forall_mem_cons.mpr ⟨Or.inl wg_181, List.forall_mem_cons.mpr ⟨Or.inl wg_216, List.forall_mem_cons.mpr ⟨Or.inl wg_183, List.forall_mem_cons.mpr ⟨Or.inl wg_192, List.forall_mem_cons.mpr ⟨Or.inr (Or.inr ⟨(Cond.laysStatic "java/lang/Throwable" "UNASSIGNED_STACK" "[Ljava/lang/StackTraceElement;"), rfl, by decide +kernel⟩), List.forall_mem_cons.mpr ⟨Or.inl wg_193, List.forall_mem_cons.mpr ⟨Or.inr (Or.inr ⟨(Cond.laysStatic "java/lang/Throwable" "SUPPRESSED_SENTINEL" "Ljava/util/List;"), rfl, by decide +kernel⟩), List.forall_mem_cons.mpr ⟨Or.inl wg_185, List.forall_mem_cons.mpr ⟨Or.inl wg_210, List.forall_mem_cons.mpr ⟨Or.inl wg_211, List.forall_mem_cons.mpr ⟨Or.inl wg_213, List.forall_mem_cons.mpr ⟨Or.inl wg_185, List.forall_mem_cons.mpr ⟨Or.inl wg_201, List.forall_mem_cons.mpr ⟨Or.inl wg_202, List.forall_mem_cons.mpr ⟨Or.inl wg_203, List.forall_mem_cons.mpr ⟨Or.inl wg_204, List.forall_mem_cons.mpr ⟨Or.inr (Or.inl nw_9), List.forall_mem_cons.mpr ⟨Or.inl wg_204, List.forall_mem_cons.mpr ⟨Or.inl wg_205, List.forall_mem_cons.mpr ⟨Or.inl wg_206, List.forall_mem_cons.mpr ⟨Or.inl wg_207, List.forall_mem_cons.mpr ⟨Or.inr (Or.inl nw_10), List.forall_mem_cons.mpr ⟨Or.inl wg_207, List.forall_mem_cons.mpr ⟨Or.inl wg_208, List.forall_mem_cons.mpr ⟨Or.inl wg_209, List.forall_mem_cons.mpr ⟨Or.inl wg_210, List.forall_mem_cons.mpr ⟨Or.inr (Or.inl nw_11), List.forall_mem_cons.mpr ⟨Or.inl wg_200, List.forall_mem_cons.mpr ⟨Or.inl wg_175, List.forall_mem_cons.mpr ⟨Or.inr (Or.inl nw_8), List.forall_mem_cons.mpr ⟨Or.inl wg_176, List.forall_mem_cons.mpr ⟨Or.inl wg_177, List.forall_mem_cons.mpr ⟨Or.inl wg_178, List.forall_mem_cons.mpr ⟨Or.inl wg_180, List.forall_mem_cons.mpr ⟨Or.inl wg_182, List.forall_mem_cons.mpr ⟨Or.inl wg_184, List.forall_mem_cons.mpr ⟨Or.inr (Or.inr ⟨Cond.isRef (.static "java/lang/Throwable" "UNASSIGNED_STACK" "[Ljava/lang/StackTraceElement;"), rfl, by decide +kernel⟩), List.forall_mem_cons.mpr ⟨Or.inr (Or.inr ⟨Cond.isRef (.static "java/lang/Throwable" "SUPPRESSED_SENTINEL" "Ljava/util/List;"), rfl, by decide +kernel⟩), List.forall_mem_cons.mpr ⟨Or.inl wg_188, List.forall_mem_cons.mpr ⟨Or.inl wg_187, List.forall_mem_cons.mpr ⟨Or.inl wg_186, fun _ h => absurd h List.not_mem_nil⟩⟩⟩⟩⟩⟩⟩⟩⟩⟩⟩⟩⟩⟩⟩⟩⟩⟩⟩⟩⟩⟩⟩⟩⟩⟩⟩⟩⟩⟩⟩⟩⟩⟩⟩⟩⟩⟩⟩⟩⟩⟩⟩⟩⟩⟩⟩⟩⟩⟩⟩⟩⟩⟩⟩⟩⟩
theorem hat_AE {args : Array Value} {s : State} (hg : ∀ w ∈ WG, w.before args s = true) (hN : nwd s) : ∀ w ∈ vx_atS "LitreFractions" 34 "java/lang/ArithmeticException" ["java/lang/RuntimeException", "java/lang/Exception"], w.before args s = true := by
  intro w hw
  obtain ⟨h1, h2⟩ := List.mem_filter.mp hw
  rcases own_AE w h1 with h | h | ⟨z, rfl, h⟩
  · exact hg w h
  · exact nw_use hN h
  · rw [h] at h2; cases h2
set_option maxHeartbeats 4000000 in
set_option maxRecDepth 100000 in
theorem own_IE : ∀ w ∈ Bundle.ownAtoms "LitreFractions" 134 "java/lang/IndexOutOfBoundsException" ["java/lang/RuntimeException", "java/lang/Exception"], w ∈ WG ∨ w ∈ NWL ∨ ∃ z : Cond, w = z ∧ vx_no z = false := show ∀ w ∈ [(Cond.initialized "java/lang/Throwable"), (Cond.superclass "java/lang/Throwable" "java/lang/Object"), (Cond.instanceMethod ({ cls := "java/lang/Throwable", name := "fillInStackTrace", desc := "()Ljava/lang/Throwable;" } : Jvm.MethodName)), (Cond.codeSync ({ cls := "java/lang/Throwable", name := "fillInStackTrace", desc := "()Ljava/lang/Throwable;" } : Jvm.MethodName) prog_12_method_18_code (1 : Nat) (Option.some (Jvm.ClassFile.FieldType.object "java/lang/Throwable"))), (Cond.instanceMethod ({ cls := "java/lang/Throwable", name := "fillInStackTrace", desc := "(I)Ljava/lang/Throwable;" } : Jvm.MethodName)), (Cond.native ({ cls := "java/lang/Throwable", name := "fillInStackTrace", desc := "(I)Ljava/lang/Throwable;" } : Jvm.MethodName)), (Cond.instanceMethod ({ cls := "java/lang/Throwable", name := "<init>", desc := "()V" } : Jvm.MethodName)), (Cond.code ({ cls := "java/lang/Throwable", name := "<init>", desc := "()V" } : Jvm.MethodName) prog_12_method_1_code (1 : Nat) (Option.none : Option Jvm.ClassFile.FieldType)), (Cond.instanceMethod ({ cls := "java/lang/Object", name := "<init>", desc := "()V" } : Jvm.MethodName)), (Cond.code ({ cls := "java/lang/Object", name := "<init>", desc := "()V" } : Jvm.MethodName) object_method_1_code (1 : Nat) (Option.none : Option Jvm.ClassFile.FieldType)), (Cond.methodLink "java/lang/Throwable" (1 : Nat) ({ cls := "java/lang/Object", name := "<init>", desc := "()V" } : Jvm.MethodName)), (Cond.methodLink "java/lang/Throwable" (27 : Nat) ({ cls := "java/lang/Throwable", name := "fillInStackTrace", desc := "()Ljava/lang/Throwable;" } : Jvm.MethodName)), (Cond.methodLink "java/lang/Throwable" (202 : Nat) ({ cls := "java/lang/Throwable", name := "fillInStackTrace", desc := "(I)Ljava/lang/Throwable;" } : Jvm.MethodName)), (Cond.fieldLink "java/lang/Throwable" (7 : Nat) "java/lang/Throwable" "cause" "Ljava/lang/Throwable;"), (Cond.lays "java/lang/Throwable" "java/lang/Throwable" "cause" "Ljava/lang/Throwable;"), (Cond.fieldLink "java/lang/Throwable" (17 : Nat) "java/lang/Throwable" "stackTrace" "[Ljava/lang/StackTraceElement;"), (Cond.lays "java/lang/Throwable" "java/lang/Throwable" "stackTrace" "[Ljava/lang/StackTraceElement;"), (Cond.fieldLink "java/lang/Throwable" (24 : Nat) "java/lang/Throwable" "suppressedExceptions" "Ljava/util/List;"), (Cond.lays "java/lang/Throwable" "java/lang/Throwable" "suppressedExceptions" "Ljava/util/List;"), (Cond.fieldLink "java/lang/Throwable" (13 : Nat) "java/lang/Throwable" "UNASSIGNED_STACK" "[Ljava/lang/StackTraceElement;"), (Cond.laysStatic "java/lang/Throwable" "UNASSIGNED_STACK" "[Ljava/lang/StackTraceElement;"), (Cond.fieldLink "java/lang/Throwable" (20 : Nat) "java/lang/Throwable" "SUPPRESSED_SENTINEL" "Ljava/util/List;"), (Cond.laysStatic "java/lang/Throwable" "SUPPRESSED_SENTINEL" "Ljava/util/List;"), (Cond.lays "java/lang/Throwable" "java/lang/Throwable" "detailMessage" "Ljava/lang/String;"), (Cond.instanceMethod ({ cls := "java/lang/Throwable", name := "<init>", desc := "(Ljava/lang/String;)V" } : Jvm.MethodName)), (Cond.code ({ cls := "java/lang/Throwable", name := "<init>", desc := "(Ljava/lang/String;)V" } : Jvm.MethodName) prog_12_method_2_code (2 : Nat) (Option.none : Option Jvm.ClassFile.FieldType)), (Cond.fieldLink "java/lang/Throwable" (31 : Nat) "java/lang/Throwable" "detailMessage" "Ljava/lang/String;"), (Cond.lays "java/lang/Throwable" "java/lang/Throwable" "detailMessage" "Ljava/lang/String;"), (Cond.instanceMethod ({ cls := "java/lang/IndexOutOfBoundsException", name := "<init>", desc := "(Ljava/lang/String;)V" } : Jvm.MethodName)), (Cond.code ({ cls := "java/lang/IndexOutOfBoundsException", name := "<init>", desc := "(Ljava/lang/String;)V" } : Jvm.MethodName) prog_7_method_2_code (2 : Nat) (Option.none : Option Jvm.ClassFile.FieldType)), (Cond.methodLink "java/lang/IndexOutOfBoundsException" (7 : Nat) ({ cls := "java/lang/RuntimeException", name := "<init>", desc := "(Ljava/lang/String;)V" } : Jvm.MethodName)), (Cond.instanceMethod ({ cls := "java/lang/RuntimeException", name := "<init>", desc := "(Ljava/lang/String;)V" } : Jvm.MethodName)), (Cond.declares ({ cls := "java/lang/RuntimeException", name := "<init>", desc := "(Ljava/lang/String;)V" } : Jvm.MethodName)), (Cond.instanceMethod ({ cls := "java/lang/RuntimeException", name := "<init>", desc := "(Ljava/lang/String;)V" } : Jvm.MethodName)), (Cond.code ({ cls := "java/lang/RuntimeException", name := "<init>", desc := "(Ljava/lang/String;)V" } : Jvm.MethodName) prog_10_method_2_code (2 : Nat) (Option.none : Option Jvm.ClassFile.FieldType)), (Cond.methodLink "java/lang/RuntimeException" (7 : Nat) ({ cls := "java/lang/Exception", name := "<init>", desc := "(Ljava/lang/String;)V" } : Jvm.MethodName)), (Cond.instanceMethod ({ cls := "java/lang/Exception", name := "<init>", desc := "(Ljava/lang/String;)V" } : Jvm.MethodName)), (Cond.declares ({ cls := "java/lang/Exception", name := "<init>", desc := "(Ljava/lang/String;)V" } : Jvm.MethodName)), (Cond.instanceMethod ({ cls := "java/lang/Exception", name := "<init>", desc := "(Ljava/lang/String;)V" } : Jvm.MethodName)), (Cond.code ({ cls := "java/lang/Exception", name := "<init>", desc := "(Ljava/lang/String;)V" } : Jvm.MethodName) prog_6_method_2_code (2 : Nat) (Option.none : Option Jvm.ClassFile.FieldType)), (Cond.methodLink "java/lang/Exception" (7 : Nat) ({ cls := "java/lang/Throwable", name := "<init>", desc := "(Ljava/lang/String;)V" } : Jvm.MethodName)), (Cond.instanceMethod ({ cls := "java/lang/Throwable", name := "<init>", desc := "(Ljava/lang/String;)V" } : Jvm.MethodName)), (Cond.declares ({ cls := "java/lang/Throwable", name := "<init>", desc := "(Ljava/lang/String;)V" } : Jvm.MethodName)), (Cond.methodLink "LitreFractions" (134 : Nat) ({ cls := "java/lang/IndexOutOfBoundsException", name := "<init>", desc := "(Ljava/lang/String;)V" } : Jvm.MethodName)), (Cond.instantiable "java/lang/IndexOutOfBoundsException" (6 : Nat)), (Cond.castable "java/lang/IndexOutOfBoundsException" "java/lang/IndexOutOfBoundsException"), (Cond.selects "java/lang/IndexOutOfBoundsException" ({ cls := "java/lang/Throwable", name := "fillInStackTrace", desc := "(I)Ljava/lang/Throwable;" } : Jvm.MethodName) ({ cls := "java/lang/Throwable", name := "fillInStackTrace", desc := "(I)Ljava/lang/Throwable;" } : Jvm.MethodName)), (Cond.selects "java/lang/IndexOutOfBoundsException" ({ cls := "java/lang/Throwable", name := "fillInStackTrace", desc := "()Ljava/lang/Throwable;" } : Jvm.MethodName) ({ cls := "java/lang/Throwable", name := "fillInStackTrace", desc := "()Ljava/lang/Throwable;" } : Jvm.MethodName)), (Cond.lays "java/lang/IndexOutOfBoundsException" "java/lang/Throwable" "cause" "Ljava/lang/Throwable;"), (Cond.lays "java/lang/IndexOutOfBoundsException" "java/lang/Throwable" "stackTrace" "[Ljava/lang/StackTraceElement;"), (Cond.lays "java/lang/IndexOutOfBoundsException" "java/lang/Throwable" "suppressedExceptions" "Ljava/util/List;"), (Cond.lays "java/lang/IndexOutOfBoundsException" "java/lang/Throwable" "detailMessage" "Ljava/lang/String;"), Cond.isRef (.static "java/lang/Throwable" "UNASSIGNED_STACK" "[Ljava/lang/StackTraceElement;"), Cond.isRef (.static "java/lang/Throwable" "SUPPRESSED_SENTINEL" "Ljava/util/List;"), (Cond.fieldLink "java/lang/Throwable" (198 : Nat) "java/lang/Throwable" "backtrace" "Ljava/lang/Object;"), (Cond.lays "java/lang/Throwable" "java/lang/Throwable" "backtrace" "Ljava/lang/Object;"), (Cond.lays "java/lang/IndexOutOfBoundsException" "java/lang/Throwable" "backtrace" "Ljava/lang/Object;")], w ∈ WG ∨ w ∈ NWL ∨ ∃ z : Cond, w = z ∧ vx_no z = false from List.forall_mem_cons.mpr ⟨Or.inl wg_16, List.forall_mem_cons.mpr ⟨Or.inl (WG_at 228 rfl rfl), List.forall_mem_cons.mpr ⟨Or.inl wg_195, List.forall_mem_cons.mpr ⟨Or.inl (WG_at 240 rfl rfl), List.forall_mem_cons.mpr ⟨Or.inl wg_198, List.forall_mem_cons.mpr ⟨Or.inl (WG_at 245 rfl rfl), List.forall_mem_cons.mpr ⟨Or.inl wg_189, List.forall_mem_cons.mpr ⟨Or.inl wg_190, List.forall_mem_cons.mpr ⟨Or.inl wg_29, List.forall_mem_cons.mpr ⟨Or.inl wg_30, List.forall_mem_cons.mpr ⟨Or.inl wg_191, List.forall_mem_cons.mpr ⟨Or.inl wg_194, List.forall_mem_cons.mpr ⟨Or.inl wg_197, List.forall_mem_cons.mpr ⟨Or.inl wg_214, List.forall_mem_cons.mpr ⟨Or.inl wg_179, List.forall_mem_cons.mpr ⟨Or.inl wg_215, List.forall_mem_cons.mpr ⟨Or.inl wg_181, List.forall_mem_cons.mpr ⟨Or.inl wg_216, List.forall_mem_cons.mpr ⟨Or.inl wg_183, List.forall_mem_cons.mpr ⟨Or.inl wg_192, List.forall_mem_cons.mpr ⟨Or.inr (Or.inr ⟨(Cond.laysStatic "java/lang/Throwable" "UNASSIGNED_STACK" "[Ljava/lang/StackTraceElement;"), rfl, by decide +kernel⟩), List.forall_mem_cons.mpr ⟨Or.inl wg_193, List.forall_mem_cons.mpr ⟨Or.inr (Or.inr ⟨(Cond.laysStatic "java/lang/Throwable" "SUPPRESSED_SENTINEL" "Ljava/util/List;"), rfl, by decide +kernel⟩), List.forall_mem_cons.mpr ⟨Or.inl wg_185, List.forall_mem_cons.mpr ⟨Or.inl wg_210, List.forall_mem_cons.mpr ⟨Or.inl wg_211, List.forall_mem_cons.mpr ⟨Or.inl wg_213, List.forall_mem_cons.mpr ⟨Or.inl wg_185, List.forall_mem_cons.mpr ⟨Or.inl wg_256, List.forall_mem_cons.mpr ⟨Or.inl wg_257, List.forall_mem_cons.mpr ⟨Or.inl wg_258, List.forall_mem_cons.mpr ⟨Or.inl wg_204, List.forall_mem_cons.mpr ⟨Or.inr (Or.inl nw_9), List.forall_mem_cons.mpr ⟨Or.inl wg_204, List.forall_mem_cons.mpr ⟨Or.inl wg_205, List.forall_mem_cons.mpr ⟨Or.inl wg_206, List.forall_mem_cons.mpr ⟨Or.inl wg_207, List.forall_mem_cons.mpr ⟨Or.inr (Or.inl nw_10), List.forall_mem_cons.mpr ⟨Or.inl wg_207, List.forall_mem_cons.mpr ⟨Or.inl wg_208, List.forall_mem_cons.mpr ⟨Or.inl wg_209, List.forall_mem_cons.mpr ⟨Or.inl wg_210, List.forall_mem_cons.mpr ⟨Or.inr (Or.inl nw_11), List.forall_mem_cons.mpr ⟨Or.inl wg_255, List.forall_mem_cons.mpr ⟨Or.inl wg_248, List.forall_mem_cons.mpr ⟨Or.inr (Or.inl nw_12), List.forall_mem_cons.mpr ⟨Or.inl wg_249, List.forall_mem_cons.mpr ⟨Or.inl wg_196, List.forall_mem_cons.mpr ⟨Or.inl wg_250, List.forall_mem_cons.mpr ⟨Or.inl wg_251, List.forall_mem_cons.mpr ⟨Or.inl wg_252, List.forall_mem_cons.mpr ⟨Or.inl wg_253, List.forall_mem_cons.mpr ⟨Or.inr (Or.inr ⟨Cond.isRef (.static "java/lang/Throwable" "UNASSIGNED_STACK" "[Ljava/lang/StackTraceElement;"), rfl, by decide +kernel⟩), List.forall_mem_cons.mpr ⟨Or.inr (Or.inr ⟨Cond.isRef (.static "java/lang/Throwable" "SUPPRESSED_SENTINEL" "Ljava/util/List;"), rfl, by decide +kernel⟩), List.forall_mem_cons.mpr ⟨Or.inl wg_188, List.forall_mem_cons.mpr ⟨Or.inl wg_187, List.forall_mem_cons.mpr ⟨Or.inl wg_254, fun _ h => absurd h List.not_mem_nil⟩⟩⟩⟩⟩⟩⟩⟩⟩⟩⟩⟩⟩⟩⟩⟩⟩⟩⟩⟩⟩⟩⟩⟩⟩⟩⟩⟩⟩⟩⟩⟩⟩⟩⟩⟩⟩⟩⟩⟩⟩⟩⟩⟩⟩⟩⟩⟩⟩⟩⟩⟩⟩⟩⟩⟩⟩
theorem hat_IE {args : Array Value} {s : State} (hg : ∀ w ∈ WG, w.before args s = true) (hN : nwd s) : ∀ w ∈ vx_atS "LitreFractions" 134 "java/lang/IndexOutOfBoundsException" ["java/lang/RuntimeException", "java/lang/Exception"], w.before args s = true := by
  intro w hw
  obtain ⟨h1, h2⟩ := List.mem_filter.mp hw
  rcases own_IE w h1 with h | h | ⟨z, rfl, h⟩
  · exact hg w h
  · exact nw_use hN h
  · rw [h] at h2; cases h2
set_option maxHeartbeats 4000000 in
set_option maxRecDepth 100000 in
theorem ot_AE : ∀ w ∈ Cond.classLink "LitreFractions" 30 "java/lang/ArithmeticException" :: Cond.initialized "java/lang/ArithmeticException" :: vx_atS "LitreFractions" 34 "java/lang/ArithmeticException" ["java/lang/RuntimeException", "java/lang/Exception"], vx_ot w = true := by decide +kernel
set_option maxHeartbeats 4000000 in
set_option maxRecDepth 100000 in
theorem ot_IE : ∀ w ∈ Cond.classLink "LitreFractions" 130 "java/lang/IndexOutOfBoundsException" :: Cond.initialized "java/lang/IndexOutOfBoundsException" :: vx_atS "LitreFractions" 134 "java/lang/IndexOutOfBoundsException" ["java/lang/RuntimeException", "java/lang/Exception"], vx_ot w = true := by decide +kernel
/-- what a throw needs of the state, apart from words that stay -/
def thr (A : Nat → Prop) (is : Nat) (tx : String) (sa : Nat) (U : State) : Prop := nwd U ∧ vx_Zq Bundle.tN "UNASSIGNED_STACK" Bundle.steD A U U.heap ∧ vx_Zq Bundle.tN "SUPPRESSED_SENTINEL" Bundle.listD A U U.heap ∧ vk_R "LitreFractions" is tx sa U
theorem thr_blind {as : List Value} {A : Nat → Prop} {is sa : Nat} {tx : String} : FrameBlind (va_Pc as (thr A is tx sa)) := fun a U g mk q => ⟨q.1, nwd_same (s := U) (U := U.calling g mk a) rfl q.2.1, vx_Zq.moved (u := U) (U := U.calling g mk a) (Vm.Alike.refl U.vm) q.2.2.1, vx_Zq.moved (u := U) (U := U.calling g mk a) (Vm.Alike.refl U.vm) q.2.2.2.1, vk_R.same (u := U) (U := U.calling g mk a) rfl q.2.2.2.2⟩
theorem thr_pre {A A0 : Nat → Prop} {is sa : Nat} {tx : String} {s : State} {H : Heap} {locs : List Loc} (h : thr A0 is tx sa s) (hS : va_S A0 s.heap H locs) (hs : ∀ q, A q → A0 q) : ∀ U : State, U.heap = H → s.WarmedH U.vm → thr A is tx sa U := fun U hU hW => ⟨nwd_warm hW h.1, by rw [hU]; exact ((vx_Zq.moved hW.alike h.2.1).kept hS.2.1).narrow hs, by rw [hU]; exact ((vx_Zq.moved hW.alike h.2.2.1).kept hS.2.1).narrow hs, vk_R.warm hW h.2.2.2⟩
end
