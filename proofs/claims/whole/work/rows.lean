section
-- ===== PART A: goes FIRST, ahead of the names: the tables' words, and 'selects' of the private methods out of them =====
/-- a private method of a class that the tables say can be made, by its rows of tables_1 -/
def lw_okq (q : MethodName × Nat) : Prop := (q.1.cls ≠ "java/lang/invoke/MethodHandle" ∧ q.1.cls ≠ "java/lang/invoke/VarHandle") ∧ Cond.instantiable q.1.cls q.2 ∈ tables_1 ∧ Cond.privateMethod q.1 ∈ tables_1 ∧ Cond.instanceMethod q.1 ∈ tables_1
theorem lw_p0 : lw_okq (⟨"LitreFractions", "isAmount", "(I)Z"⟩, 7) := ⟨⟨by decide +kernel, by decide +kernel⟩, List.mem_of_getElem? (i := 12) (by decide +kernel), List.mem_of_getElem? (i := 72) (by decide +kernel), List.mem_of_getElem? (i := 73) (by decide +kernel)⟩
theorem lw_p1 : lw_okq (⟨"LitreFractions", "keep", "(JJI)I"⟩, 7) := ⟨⟨by decide +kernel, by decide +kernel⟩, List.mem_of_getElem? (i := 12) (by decide +kernel), List.mem_of_getElem? (i := 76) (by decide +kernel), List.mem_of_getElem? (i := 77) (by decide +kernel)⟩
theorem lw_p2 : lw_okq (⟨"LitreFractions", "tableAt", "(I)LLitreFractions$Table;"⟩, 7) := ⟨⟨by decide +kernel, by decide +kernel⟩, List.mem_of_getElem? (i := 12) (by decide +kernel), List.mem_of_getElem? (i := 130) (by decide +kernel), List.mem_of_getElem? (i := 131) (by decide +kernel)⟩
theorem lw_p3 : lw_okq (⟨"LitreFractions$Table", "takes", "(JJJ)Z"⟩, 4) := ⟨⟨by decide +kernel, by decide +kernel⟩, List.mem_of_getElem? (i := 21) (by decide +kernel), List.mem_of_getElem? (i := 134) (by decide +kernel), List.mem_of_getElem? (i := 135) (by decide +kernel)⟩
theorem lw_p4 : lw_okq (⟨"LitreFractions$Table", "append", "(JJJ)V"⟩, 4) := ⟨⟨by decide +kernel, by decide +kernel⟩, List.mem_of_getElem? (i := 21) (by decide +kernel), List.mem_of_getElem? (i := 144) (by decide +kernel), List.mem_of_getElem? (i := 145) (by decide +kernel)⟩
theorem lw_p5 : lw_okq (⟨"LitreFractions$Table", "firstNotBefore", "(JJ)I"⟩, 4) := ⟨⟨by decide +kernel, by decide +kernel⟩, List.mem_of_getElem? (i := 21) (by decide +kernel), List.mem_of_getElem? (i := 152) (by decide +kernel), List.mem_of_getElem? (i := 153) (by decide +kernel)⟩
theorem lw_p6 : lw_okq (⟨"LitreFractions", "keepBetween", "(LLitreFractions$Table;II)I"⟩, 7) := ⟨⟨by decide +kernel, by decide +kernel⟩, List.mem_of_getElem? (i := 12) (by decide +kernel), List.mem_of_getElem? (i := 156) (by decide +kernel), List.mem_of_getElem? (i := 157) (by decide +kernel)⟩
theorem lw_p7 : lw_okq (⟨"LitreFractions", "sumOfWeights", "()J"⟩, 7) := ⟨⟨by decide +kernel, by decide +kernel⟩, List.mem_of_getElem? (i := 12) (by decide +kernel), List.mem_of_getElem? (i := 169) (by decide +kernel), List.mem_of_getElem? (i := 170) (by decide +kernel)⟩
theorem lw_p8 : lw_okq (⟨"LitreFractions", "thousandthsOf", "(IJJ)J"⟩, 7) := ⟨⟨by decide +kernel, by decide +kernel⟩, List.mem_of_getElem? (i := 12) (by decide +kernel), List.mem_of_getElem? (i := 174) (by decide +kernel), List.mem_of_getElem? (i := 175) (by decide +kernel)⟩
theorem lw_p9 : lw_okq (⟨"java/lang/Throwable", "fillInStackTrace", "(I)Ljava/lang/Throwable;"⟩, 6) := ⟨⟨by decide +kernel, by decide +kernel⟩, List.mem_of_getElem? (i := 232) (by decide +kernel), List.mem_of_getElem? (i := 230) (by decide +kernel), List.mem_of_getElem? (i := 231) (by decide +kernel)⟩
theorem lw_p10 : lw_okq (⟨"LitreFractionsModel", "make", "(JJI)I"⟩, 11) := ⟨⟨by decide +kernel, by decide +kernel⟩, List.mem_of_getElem? (i := 309) (by decide +kernel), List.mem_of_getElem? (i := 359) (by decide +kernel), List.mem_of_getElem? (i := 360) (by decide +kernel)⟩
theorem lw_p11 : lw_okq (⟨"LitreFractionsModel", "isAmount", "(I)Z"⟩, 11) := ⟨⟨by decide +kernel, by decide +kernel⟩, List.mem_of_getElem? (i := 309) (by decide +kernel), List.mem_of_getElem? (i := 372) (by decide +kernel), List.mem_of_getElem? (i := 373) (by decide +kernel)⟩
def lw_privs_1 : List (MethodName × Nat) := [(⟨"LitreFractions", "isAmount", "(I)Z"⟩, 7), (⟨"LitreFractions", "keep", "(JJI)I"⟩, 7), (⟨"LitreFractions", "tableAt", "(I)LLitreFractions$Table;"⟩, 7), (⟨"LitreFractions$Table", "takes", "(JJJ)Z"⟩, 4), (⟨"LitreFractions$Table", "append", "(JJJ)V"⟩, 4), (⟨"LitreFractions$Table", "firstNotBefore", "(JJ)I"⟩, 4), (⟨"LitreFractions", "keepBetween", "(LLitreFractions$Table;II)I"⟩, 7), (⟨"LitreFractions", "sumOfWeights", "()J"⟩, 7), (⟨"LitreFractions", "thousandthsOf", "(IJJ)J"⟩, 7), (⟨"java/lang/Throwable", "fillInStackTrace", "(I)Ljava/lang/Throwable;"⟩, 6), (⟨"LitreFractionsModel", "make", "(JJI)I"⟩, 11), (⟨"LitreFractionsModel", "isAmount", "(I)Z"⟩, 11)]
theorem lw_r1 : ∀ q ∈ lw_privs_1, lw_okq q := List.forall_mem_cons.mpr ⟨lw_p0, List.forall_mem_cons.mpr ⟨lw_p1, List.forall_mem_cons.mpr ⟨lw_p2, List.forall_mem_cons.mpr ⟨lw_p3, List.forall_mem_cons.mpr ⟨lw_p4, List.forall_mem_cons.mpr ⟨lw_p5, List.forall_mem_cons.mpr ⟨lw_p6, List.forall_mem_cons.mpr ⟨lw_p7, List.forall_mem_cons.mpr ⟨lw_p8, List.forall_mem_cons.mpr ⟨lw_p9, List.forall_mem_cons.mpr ⟨lw_p10, List.forall_mem_cons.mpr ⟨lw_p11, fun _ h => absurd h List.not_mem_nil⟩⟩⟩⟩⟩⟩⟩⟩⟩⟩⟩⟩
def lw_privs : List (MethodName × Nat) := lw_privs_1
def lw_tbl : List Cond := k2_sels lw_privs ++ tables_1
theorem lw_privs_ok : ∀ q ∈ lw_privs, lw_okq q := lw_r1
end
section
/-! ===== BEGIN words of one list among another's, by their places ===== -/
theorem goodIn_r {big : List Cond} (ws : List Cond) (ps : List Nat) (hp : ws = ps.filterMap (fun i => big[i]?)) (h : ws.all goodWord = true) : GoodIn big ws := by
  intro w hw
  have h1 := List.all_eq_true.mp h w hw
  rw [hp] at hw
  obtain ⟨i, -, hi⟩ := List.mem_filterMap.mp hw
  have hm : w ∈ big := by first | exact List.mem_of_getElem? hi | exact List.getElem?_mem hi
  exact ⟨hm, good_of_word h1⟩
theorem goodIn_app {big a b : List Cond} (ha : GoodIn big a) (hb : GoodIn big b) : GoodIn big (a ++ b) := fun w h => (List.mem_append.mp h).elim (ha w) (hb w)
theorem goodIn_ca {big a b : List Cond} {c : Cond} (ha : GoodIn big (c :: a)) (hb : GoodIn big b) : GoodIn big (c :: (a ++ b)) := fun w h => (List.mem_cons.mp h).elim (fun e => ha w (List.mem_cons.mpr (Or.inl e))) (fun h => (List.mem_append.mp h).elim (fun h => ha w (List.mem_cons.mpr (Or.inr h))) (hb w))
theorem goodIn_sub {big ws : List Cond} (hm : ∀ w ∈ ws, w ∈ big) (h : ws.all goodWord = true) : GoodIn big ws := fun w hw => ⟨hm w hw, good_of_word (List.all_eq_true.mp h w hw)⟩
/-! ===== END ===== -/

/-! ===== BEGIN exceptions that leave a method, and their catching by the caller (launches without stack traces) ===== -/
section VXA
/-! The laws vx_back, vx_callV, vx_callS, vx_callSW, vx_throw0, vx_throwS follow proofs of the library, with one case more: JvmDerived/Free/Laws.lean (Back.of_free), Shelf42/LK1.lean (callV, callS), Shelf/KitTraced.lean (throwNew0V, throwNewS). -/
/-- where a method has thrown q: the class by its name, the cell, what was written, the world -/
def vx_T (XC : String → State → State → Prop) (st : State) (q : Addr) (t : State) (mc ms : Nat) (free : Addr → Prop) : Prop :=
  ∃ (E : String) (ce : Cell) (L : List Loc), XC E st t ∧ t.heap[q]? = some ce ∧ ce.vm = .none ∧ st.vm.findClass E = some ce.cls ∧ st.WarmedH t.vm ∧ st.sameButNew ({ t with vm := st.vm } : State) L mc ms ∧ ∀ z ∈ L, free z.base
def vx_Q (Qc : Array Value → State → Outcome → State → Prop) (XC : String → State → State → Prop) (mc ms : Nat) (free : Addr → Prop) : Array Value → State → Outcome → State → Prop := fun a st o t =>
  (Qc a st o t ∧ ∃ L, FrameEnd st o t L mc ms ∧ ∀ q ∈ L, free q.base) ∨ ∃ q, o = .threw q ∧ vx_T XC st q t mc ms free
/-- a callee that returns or throws -/
def vx_Met (l : Launch) (y : MethodName) (ws : List Cond) (rm : Room) (Pc : Array Value → State → Prop) (Qc : Array Value → State → Outcome → State → Prop) (XC : String → State → State → Prop) (mc ms : Nat) (free : Addr → Prop) : Prop :=
  MetFree l y (headSpec ws rm) Pc (fun _ _ _ _ _ => True) (vx_Q Qc XC mc ms free)
def vx_Post (XC : String → State → State → Prop) (mc ms : Nat) (free : Addr → Prop) : Pt → Array Value → Addr → Pt → Prop := fun A a q B =>
  ∃ (g : JFrame) (mk : MethodId) (t : State) (L : List Loc) (E : String) (ce : Cell), B.U.heap = t.heap ∧ B.U.vm = t.vm ∧ XC E (A.U.calling g mk a) t ∧ t.heap[q]? = some ce ∧ ce.vm = .none ∧ A.U.vm.findClass E = some ce.cls ∧ B.locs = A.locs ++ L ∧ (∀ z ∈ L, free z.base) ∧ B.cells = A.cells + mc ∧ B.slots = A.slots + ms
def vx_Back (l : Launch) (R : Room) (p : Program) (e : Env) (below : List Frame) (s : State) (sargs : Array Value) (y : MethodName) (len W9 : Nat)
    (Pre : Pt → Array Value → Prop) (Post : Pt → Array Value → Option Value → Pt → Prop) (PostX : Pt → Array Value → Addr → Pt → Prop) : Prop :=
  ∀ (m : MethodId) (meth : Method) (c : Code) (A : Pt) (g : JFrame) (ig : Instr) (mk : MethodId) (a : Array Value),
    Stand p l e R s m sargs below meth c A.U A.locs A.cells A.slots → g.method = m → g.locals.size = c.maxLocals → decode c.code g.pc = .ok (ig, len) →
    2 * g.monitorRoom + (g.stack.map fun v => v.category).sum ≤ W9 → A.U.methodNamed? y = some mk → Pre A a →
    (∃ (v : Option Value) (B : Pt), Stand p l e R s m sargs below meth c B.U B.locs B.cells B.slots ∧ Post A a v B ∧
      Steps p.tables e below (doInvoke e (A.U.setTop g) [] mk a).1 (B.U.setTop { g with pc := g.pc + len, stack := v.toList ++ g.stack })) ∨
    (∃ (q : Addr) (B : Pt), Stand p l e R s m sargs below meth c B.U B.locs B.cells B.slots ∧ PostX A a q B ∧
      Steps p.tables e below (doInvoke e (A.U.setTop g) [] mk a).1 ((B.U.setTop g).pushFrame (.throwing q)))
section Payer
variable {l : Launch} {R : Room} {p : Program} {e : Env} {below : List Frame} {s : State} {sargs : Array Value} {y : MethodName} {len W9 : Nat}
theorem vx_back {ws : List Cond} {rm : Room} {Pc : Array Value → State → Prop} {Qc : Array Value → State → Outcome → State → Prop} {XC : String → State → State → Prop} {mc ms : Nat} {free : Addr → Prop} {bytes : ByteArray} {maxL : Nat} {ret : Option FieldType}
    (hM : vx_Met l y ws rm Pc Qc XC mc ms free) (hblind : FrameBlind Pc) (hrc : rm.cells = mc) (hrs : rm.slots = ms)
    (hframes : rm.frames + 1 ≤ R.frames) (hlocals : W9 + (maxL + 11) + rm.locals ≤ R.locals)
    (hws : ∀ w ∈ ws, ∀ a' U, s.WarmedH U.vm → w.before a' U = true) (hcode : Cond.code y bytes maxL ret ∈ ws) (hinit : ∀ a' U, s.WarmedH U.vm → (Cond.initialized y.cls).before a' U = true) :
    vx_Back l R p e below s sargs y len W9 (PreOf R mc ms Pc) (PostOf Qc mc ms free) (vx_Post XC mc ms free) := by
  intro m meth c A g ig mk a X hg hsize hdg hW hn hp
  have h1 : (headSpec ws rm).pre.before a A.U = true := atoms_intro fun w hw => hws w hw _ _ X.warmed
  have h2 : (Cond.code y bytes maxL ret).before a A.U = true := hws _ hcode _ _ X.warmed
  have h3 : (Cond.initialized y.cls).before a A.U = true := hinit _ _ X.warmed
  have h4 : A.cells + (headSpec ws rm).room.cells ≤ R.cells := by rw [show (headSpec ws rm).room.cells = mc from hrc]; exact hp.1
  have h5 : A.slots + (headSpec ws rm).room.slots ≤ R.slots := by rw [show (headSpec ws rm).room.slots = ms from hrs]; exact hp.2.1
  have hPc : Pc a (A.U.calling g mk a) := hblind _ _ _ _ hp.2.2
  obtain ⟨U, Ls, c0, s0⟩ := A
  dsimp only [Pt.U, Pt.locs, Pt.cells, Pt.slots] at h1 h2 h3 h4 h5 X hn hPc ⊢
  obtain ⟨methY, cY, hmY, hcY, -, hlY, -, -, -, -⟩ := Cond.code_spec hn h2
  obtain ⟨kY, hkY, -⟩ := className_of_methodNamed hn
  have hinitY : kY.init = .initialized := Cond.initialized_spec (findClass_of_methodNamed hn) hkY h3
  have h : At U g.method c below := by rw [hg]; exact X.here
  have hlocals9 : W9 + (maxL + 11) + (headSpec ws rm).room.locals ≤ R.locals := hlocals
  have happ : (headSpec ws rm).appliesLoose y e.platform (U.calling g mk a) = true :=
    Spec.appliesLoose_calling (g := g) h hdg hn hkY hinitY
      (X.room_calling (g := g) (R' := (headSpec ws rm).room) hsize hmY hcY hframes (by rw [hlY]; omega) h4 h5) h1
  obtain ⟨mid, hmid⟩ := h.above
  have hfr : (U.setTop g).frames = (.java g :: mid) ++ below := by rw [State.frames_setTop' g h.top, hmid]; rfl
  obtain ⟨o, s₂, hsteps, -, hend, hq⟩ := Steps.callFree hM p X.admits X.cas X.clock (acts := []) hfr happ hPc trivial
  have hq' : vx_Q Qc XC mc ms free a (U.calling g mk a) o s₂ := hq
  rw [State.frames_setTop' g h.top] at hend
  obtain ⟨g₀, hg0⟩ := Option.isSome_iff_exists.mp h.top
  obtain ⟨r, hr⟩ := State.topJava?_eq_some.mp hg0
  have hr' : (({ U with heap := s₂.heap, slotsUsed := s₂.slotsUsed } : State).setVm s₂.vm).frames = .java g₀ :: r := hr
  rcases hq' with ⟨hqc, L, hfe, hL⟩ | ⟨q, rfl, E, ce, L, hx, hce, hcv, hcl, hW₂, hsm, hL⟩
  · obtain ⟨⟨v, rfl⟩, hW₂, e2, q2, q3, q4, q5, q6⟩ := id hfe
    have e3 : s₂ = ({ (U.calling g mk a).setFrames s₂.frames with heap := s₂.heap, slotsUsed := s₂.slotsUsed } : State).setVm s₂.vm := by
      have : s₂ = ({ s₂ with vm := (U.calling g mk a).vm } : State).setVm s₂.vm := rfl
      rw [e2] at this
      exact this
    obtain ⟨c₂, i₂, len₂, hc₂, hd₂, hf₂⟩ := hend
    have hW' : U.WarmedH s₂.vm := hW₂
    have hcc : c₂ = c := by
      have h1 : s₂.code? g.method = U.code? g.method := by
        rw [State.code?_eq, State.code?_eq, hW'.alike.method?]
      exact Option.some.inj (hc₂.symm.trans (h1.trans h.code))
    subst hcc
    have hlen : len₂ = len := by rw [hdg] at hd₂; cases hd₂; rfl
    subst hlen
    have hs₂ : s₂ = (({ U with heap := s₂.heap, slotsUsed := s₂.slotsUsed } : State).setVm s₂.vm).setTop { g with pc := g.pc + len₂, stack := v.toList ++ g.stack } := by
      refine e3.trans ?_
      rw [hf₂, State.calling_eq h.top, State.setFrames_setFrames, State.setTop_of_frames _ hr', hr]
      rfl
    have hsame : U.sameButNew ({ U with heap := s₂.heap, slotsUsed := s₂.slotsUsed } : State) L mc ms := by
      refine ⟨?_, q2, q3, q4, q5, q6⟩
      obtain ⟨t, ht, -⟩ := State.frames_cons hr
      show ({ U with heap := s₂.heap, slotsUsed := s₂.slotsUsed } : State) = { U.setFrames U.frames with heap := s₂.heap, slotsUsed := s₂.slotsUsed }
      rw [State.setFrames_self ht]
    subst hg
    refine Or.inl ⟨v, ⟨(({ U with heap := s₂.heap, slotsUsed := s₂.slotsUsed } : State).setVm s₂.vm), Ls ++ L, c0 + mc, s0 + ms⟩,
      ⟨X.admits, X.cas, X.clock, X.frames, X.room, X.hears, X.method, X.code, (X.here.setHeapUsed s₂.heap s₂.slotsUsed).setVm hW'.alike, X.tail, State.WarmedH.trans X.warmed hW', X.limits, X.bytes, X.same.trans (hsame.setVm s.vm)⟩,
      ⟨g, mk, s₂, L, rfl, rfl, hqc, rfl, hL, rfl, rfl⟩, ?_⟩
    show Steps p.tables e below _ ((({ U with heap := s₂.heap, slotsUsed := s₂.slotsUsed } : State).setVm s₂.vm).setTop { g with pc := g.pc + len₂, stack := v.toList ++ g.stack })
    rw [← hs₂]
    exact hsteps
  · obtain ⟨e2, q2, q3, q4, q5, q6⟩ := id hsm
    have e3 : s₂ = ({ (U.calling g mk a).setFrames s₂.frames with heap := s₂.heap, slotsUsed := s₂.slotsUsed } : State).setVm s₂.vm := by
      have : s₂ = ({ s₂ with vm := (U.calling g mk a).vm } : State).setVm s₂.vm := rfl
      rw [e2] at this
      exact this
    have hf₂ : s₂.frames = .throwing q :: .java g :: U.frames.tail := hend
    have hW' : U.WarmedH s₂.vm := hW₂
    have hs₂ : s₂ = ((({ U with heap := s₂.heap, slotsUsed := s₂.slotsUsed } : State).setVm s₂.vm).setTop g).pushFrame (.throwing q) := by
      refine e3.trans ?_
      rw [hf₂, State.calling_eq h.top, State.setFrames_setFrames, State.pushFrame, State.frames_setTop _ hr', State.setTop_of_frames _ hr', State.setFrames_setFrames, hr]
      rfl
    have hsame : U.sameButNew ({ U with heap := s₂.heap, slotsUsed := s₂.slotsUsed } : State) L mc ms := by
      refine ⟨?_, q2, q3, q4, q5, q6⟩
      obtain ⟨t, ht, -⟩ := State.frames_cons hr
      show ({ U with heap := s₂.heap, slotsUsed := s₂.slotsUsed } : State) = { U.setFrames U.frames with heap := s₂.heap, slotsUsed := s₂.slotsUsed }
      rw [State.setFrames_self ht]
    subst hg
    refine Or.inr ⟨q, ⟨(({ U with heap := s₂.heap, slotsUsed := s₂.slotsUsed } : State).setVm s₂.vm), Ls ++ L, c0 + mc, s0 + ms⟩,
      ⟨X.admits, X.cas, X.clock, X.frames, X.room, X.hears, X.method, X.code, (X.here.setHeapUsed s₂.heap s₂.slotsUsed).setVm hW'.alike, X.tail, State.WarmedH.trans X.warmed hW', X.limits, X.bytes, X.same.trans (hsame.setVm s.vm)⟩,
      ⟨g, mk, s₂, L, E, ce, rfl, rfl, hx, hce, hcv, hcl, rfl, hL, rfl, rfl⟩, ?_⟩
    show Steps p.tables e below _ (((({ U with heap := s₂.heap, slotsUsed := s₂.slotsUsed } : State).setVm s₂.vm).setTop g).pushFrame (.throwing q))
    rw [← hs₂]
    exact hsteps
end Payer
section Calls
variable {p : Program} {l : Launch} {e : Env} {R : Room} {s : State} {m : MethodId} {args : Array Value} {below : List Frame} {meth : Method} {c : Code} {T : State} {locs : List Loc} {cells slots : Nat}
theorem vx_callV (X : Stand p l e R s m args below meth c T locs cells slots) (hexec : p.tables.exec = Jvm.exec) {own C : String} {index : Nat} {y : MethodName} {bytes : ByteArray} {maxL : Nat} {ret : Option FieldType}
    (hown : s.vm.findClass own = some m.cls) (hlink : (Cond.methodLink own index y).before args s = true) (hinst : (Cond.instanceMethod y).before args s = true) (hsel : (Cond.selects C y y).before args s = true)
    (hcode : (Cond.code y bytes maxL ret).before args s = true) (hy : y.cls ≠ "java/lang/invoke/MethodHandle" ∧ y.cls ≠ "java/lang/invoke/VarHandle")
    {W9 : Nat} {Pre : Pt → Array Value → Prop} {Post : Pt → Array Value → Option Value → Pt → Prop} {PostX : Pt → Array Value → Addr → Pt → Prop} (hK : vx_Back l R p e below s args y 3 W9 Pre Post PostX)
    {b : Addr} {cellB : Cell} (hcell : T.heap[b]? = some cellB) (hobj : cellB.vm.isStatics = false) (hcls : s.vm.findClass C = some cellB.cls)
    {g : JFrame} (hg : g.method = m) (hsize : g.locals.size = c.maxLocals) {argsL rest : List Value} (hlen : ∀ sig, parseMethodDescriptor y.desc = some sig → argsL.length = sig.parameters.length)
    (hstack : g.stack = argsL.reverse ++ .ref b :: rest) (hW : 2 * g.monitorRoom + (rest.map fun v => v.category).sum ≤ W9) (hdg : decode c.code g.pc = .ok (.invokevirtual index, 3))
    (hpre : ∀ vm₁, s.WarmedH vm₁ → Pre ⟨T.setVm vm₁, locs, cells, slots⟩ (Value.ref b :: argsL).toArray) :
    (∃ (v : Option Value) (vm₁ : Vm) (B : Pt), s.WarmedH vm₁ ∧ Stand p l e R s m args below meth c B.U B.locs B.cells B.slots ∧ Post ⟨T.setVm vm₁, locs, cells, slots⟩ (Value.ref b :: argsL).toArray v B ∧
      ∀ target, Steps p.tables e below (B.U.setTop { g with pc := g.pc + 3, stack := v.toList ++ rest }) target → Steps p.tables e below (T.setTop g) target) ∨
    (∃ (q : Addr) (vm₁ : Vm) (B : Pt), s.WarmedH vm₁ ∧ Stand p l e R s m args below meth c B.U B.locs B.cells B.slots ∧ PostX ⟨T.setVm vm₁, locs, cells, slots⟩ (Value.ref b :: argsL).toArray q B ∧
      Steps p.tables e below (T.setTop g) ((B.U.setTop { g with stack := rest }).pushFrame (.throwing q))) := by
  obtain ⟨mk, methM, hnamed, hmethM, hstM, habM⟩ := Cond.instanceMethod_spec hinst
  obtain ⟨methM', cM, hmethM', -, -, -, -, -, -, hsigM⟩ := Cond.code_spec hnamed hcode
  cases hmethM.symm.trans hmethM'
  obtain ⟨c2, r2, m2, q1, q2, q3, q4, kP, hkP, hkPi⟩ := Cond.selects_spec hsel
  cases hcls.symm.trans q1
  cases (State.methodFound?_of_named hnamed hy).symm.trans q2
  cases hnamed.symm.trans q3
  have hselP : selectMethod e.platform s.vm cellB.cls mk = .method mk := by rw [Launch.admits_selectMethod X.admits]; exact q4
  obtain ⟨vm₁, X₁, hstep₁⟩ := X.invokevirtual hexec hown hlink hnamed hmethM hstM hkP hkPi hy (a := b) (cell := cellB) hcell
    (fun z h => by rw [h] at hobj; cases hobj) hselP hmethM habM hkP hkPi (g := g) hg (argsL := argsL) (rest := rest) (hlen _ hsigM) hstack hdg
  rcases hK m meth c ⟨T.setVm vm₁, locs, cells, slots⟩ { g with stack := rest } (.invokevirtual index) mk (Value.ref b :: argsL).toArray X₁ hg hsize hdg hW (X₁.named hnamed) (hpre vm₁ X₁.warmed) with ⟨v, B, X', hpost, hsteps⟩ | ⟨q, B, X', hpost, hsteps⟩
  · exact Or.inl ⟨v, vm₁, B, X₁.warmed, X', hpost, fun target h => hstep₁ _ fun acts => by rw [doInvoke_state]; exact hsteps.trans h⟩
  · exact Or.inr ⟨q, vm₁, B, X₁.warmed, X', hpost, hstep₁ _ fun acts => by rw [doInvoke_state]; exact hsteps⟩
theorem vx_callS (X : Stand p l e R s m args below meth c T locs cells slots) (hexec : p.tables.exec = Jvm.exec) {own : String} {index : Nat} {y : MethodName} {bytes : ByteArray} {maxL : Nat} {ret : Option FieldType}
    (hown : s.vm.findClass own = some m.cls) (hlink : (Cond.methodLink own index y).before args s = true) (hstat : (Cond.static y).before args s = true) (hinit : (Cond.initialized y.cls).before args s = true)
    (hcode : (Cond.code y bytes maxL ret).before args s = true) (hy : y.cls ≠ "java/lang/invoke/MethodHandle" ∧ y.cls ≠ "java/lang/invoke/VarHandle")
    {W9 : Nat} {Pre : Pt → Array Value → Prop} {Post : Pt → Array Value → Option Value → Pt → Prop} {PostX : Pt → Array Value → Addr → Pt → Prop} (hK : vx_Back l R p e below s args y 3 W9 Pre Post PostX)
    {g : JFrame} (hg : g.method = m) (hsize : g.locals.size = c.maxLocals) {argsL rest : List Value} (hlen : ∀ sig, parseMethodDescriptor y.desc = some sig → argsL.length = sig.parameters.length)
    (hstack : g.stack = argsL.reverse ++ rest) (hW : 2 * g.monitorRoom + (rest.map fun v => v.category).sum ≤ W9) (hdg : decode c.code g.pc = .ok (.invokestatic index, 3))
    (hpre : ∀ vm₁, s.WarmedH vm₁ → Pre ⟨T.setVm vm₁, locs, cells, slots⟩ argsL.toArray) :
    (∃ (v : Option Value) (vm₁ : Vm) (B : Pt), s.WarmedH vm₁ ∧ Stand p l e R s m args below meth c B.U B.locs B.cells B.slots ∧ Post ⟨T.setVm vm₁, locs, cells, slots⟩ argsL.toArray v B ∧
      ∀ target, Steps p.tables e below (B.U.setTop { g with pc := g.pc + 3, stack := v.toList ++ rest }) target → Steps p.tables e below (T.setTop g) target) ∨
    (∃ (q : Addr) (vm₁ : Vm) (B : Pt), s.WarmedH vm₁ ∧ Stand p l e R s m args below meth c B.U B.locs B.cells B.slots ∧ PostX ⟨T.setVm vm₁, locs, cells, slots⟩ argsL.toArray q B ∧
      Steps p.tables e below (T.setTop g) ((B.U.setTop { g with stack := rest }).pushFrame (.throwing q))) := by
  obtain ⟨mk, hnamed⟩ := Cond.code_named hcode
  obtain ⟨methM, cM, hmethM, -, -, -, -, -, -, hsigM⟩ := Cond.code_spec hnamed hcode
  have hstatic : methM.isStatic = true := Cond.static_spec hnamed hmethM hstat
  obtain ⟨kP, hkP, -⟩ := className_of_methodNamed hnamed
  have hinitP : kP.init = .initialized := Cond.initialized_spec (findClass_of_methodNamed hnamed) hkP hinit
  obtain ⟨vm₁, X₁, hstep₁⟩ := X.invokestatic hexec hown hlink hnamed hmethM hstatic hkP hinitP hy (g := g) hg (argsL := argsL) (rest := rest) (hlen _ hsigM) hstack hdg
  rcases hK m meth c ⟨T.setVm vm₁, locs, cells, slots⟩ { g with stack := rest } (.invokestatic index) mk argsL.toArray X₁ hg hsize hdg hW (X₁.named hnamed) (hpre vm₁ X₁.warmed) with ⟨v, B, X', hpost, hsteps⟩ | ⟨q, B, X', hpost, hsteps⟩
  · exact Or.inl ⟨v, vm₁, B, X₁.warmed, X', hpost, fun target h => hstep₁ _ fun acts => by rw [doInvoke_state]; exact hsteps.trans h⟩
  · exact Or.inr ⟨q, vm₁, B, X₁.warmed, X', hpost, hstep₁ _ fun acts => by rw [doInvoke_state]; exact hsteps⟩
end Calls
theorem vx_cls {s : State} {T : State} {vm₁ : Vm} {E : String} {k : ClassId} (hW : s.WarmedH vm₁) (h : (T.setVm vm₁).vm.findClass E = some k) : s.vm.findClass E = some k := by
  have h1 : vm₁.findClass E = some k := h
  rw [hW.alike.findClass] at h1
  exact h1
/-- the method's frame g, with q thrown over it -/
def vx_W (p : Program) (l : Launch) (e : Env) (R : Room) (s : State) (m : MethodId) (args : Array Value) (below : List Frame) (meth : Method) (c : Code) (H : Heap) (locs : List Loc) (cells slots : Nat) (Q : State → Prop) (g : JFrame) (q : Addr) : Prop :=
  ∀ T : State, T.heap = H → Stand p l e R s m args below meth c T locs cells slots → ∃ t, Steps p.tables e below ((T.setTop g).pushFrame (.throwing q)) t ∧ Q t
def vx_Run (p : Program) (l : Launch) (e : Env) (R : Room) (s : State) (m : MethodId) (args : Array Value) (below : List Frame) (meth : Method) (c : Code) (H : Heap) (locs : List Loc) (cells slots mc ms : Nat) (g : JFrame) (rest : List Value) (Qa : State → Outcome → State → Prop) (XC : String → State → State → Prop) (free : Addr → Prop) : Prop :=
  ∀ T : State, T.heap = H → Stand p l e R s m args below meth c T locs cells slots →
    (∃ (v : Option Value) (st₀ t T' : State) (L : List Loc), st₀.heap = H ∧ Stand p l e R s m args below meth c T' (locs ++ L) (cells + mc) (slots + ms) ∧ (∀ q ∈ L, free q.base) ∧ T'.heap = t.heap ∧ T'.vm = t.vm ∧ Qa st₀ (.returned v) t ∧
      Goes p e below T g T' { g with pc := g.pc + 3, stack := v.toList ++ rest }) ∨
    (∃ (q : Addr) (st₀ t T' : State) (L : List Loc) (E : String) (ce : Cell), st₀.heap = H ∧ Stand p l e R s m args below meth c T' (locs ++ L) (cells + mc) (slots + ms) ∧ (∀ z ∈ L, free z.base) ∧ T'.heap = t.heap ∧ T'.vm = t.vm ∧ XC E st₀ t ∧ t.heap[q]? = some ce ∧ ce.vm = .none ∧ s.vm.findClass E = some ce.cls ∧
      Steps p.tables e below (T.setTop g) ((T'.setTop { g with stack := rest }).pushFrame (.throwing q)))
def vx_X {S : Type} (px : S → Prop) (B : String → S → State → Prop) (A : Nat → Prop) : String → State → State → Prop := fun E st t => ∃ u : S, px u ∧ B E u t ∧ va_F A st t
section Runs
variable {p : Program} {l : Launch} {e : Env} {R : Room} {s : State} {m : MethodId} {args : Array Value} {below : List Frame} {meth : Method} {c : Code} {H : Heap} {locs : List Loc} {cells slots : Nat}
variable {y : MethodName} {bytes cc : ByteArray} {maxL nL mc ms n index : Nat} {ret : Option FieldType} {ws : List Cond} {rm : Room} {Pc : Array Value → State → Prop} {Qc : Array Value → State → Outcome → State → Prop} {XC : String → State → State → Prop} {free : Addr → Prop} {Ts : List Cond} {own C : String} {b : Addr} {As rest : List Value} {g : JFrame}
theorem vx_callBack (cb : CallB R s args own index y bytes maxL ret ws rm mc ms n) (hM : vx_Met l y ws rm Pc Qc XC mc ms free) (hbl : FrameBlind Pc) : vx_Back l R p e below s args y 3 8 (PreOf R mc ms Pc) (PostOf Qc mc ms free) (vx_Post XC mc ms free) := by
  obtain ⟨hrc, hrs, hfr, hlo, hws, hcw, -, hini, -⟩ := cb
  exact vx_back (bytes := bytes) (maxL := maxL) (ret := ret) hM hbl hrc hrs hfr hlo hws hcw (fun a' U hW => word_at hW (Or.inl (by first | rfl | simp [Cond.onTables, Cond.keeps, Cond.steady])) hini)
theorem vx_runV (S : CallFix p m c cc nL s args Ts own) (hM : vx_Met l y ws rm Pc Qc XC mc ms free) (cw : CallW R s args own C index y bytes maxL ret ws rm mc ms n) (hp : PreV s H C b Pc As)
    (hg : g.method = m) (hn : As.length = n) (hsize : g.locals.size = nL) (hstack : g.stack = As.reverse ++ .ref b :: rest) (hW : 2 * g.monitorRoom + (rest.map fun v => v.category).sum ≤ 8) (hdg : decode cc g.pc = .ok (.invokevirtual index, 3)) (hf : cells + mc ≤ R.cells ∧ slots + ms ≤ R.slots) :
    vx_Run p l e R s m args below meth c H locs cells slots mc ms g rest (Qc (Value.ref b :: As).toArray) XC free := by
  have hK : vx_Back l R p e below s args y 3 8 (PreOf R mc ms Pc) (PostOf Qc mc ms free) (vx_Post XC mc ms free) := vx_callBack cw.1 hM hp.1
  obtain ⟨⟨-, -, -, -, -, -, hcode, -, hy, hlen, hl⟩, hin, hse⟩ := cw
  obtain ⟨hx, hb, hml, ho, -⟩ := S
  obtain ⟨-, ⟨cellB, hcB, hoB, hclB⟩, hPc⟩ := hp
  intro T hT X
  rcases vx_callV X hx (C := C) (bytes := bytes) (maxL := maxL) (ret := ret) ho hl hin hse hcode hy hK (by rw [hT]; exact hcB) hoB hclB hg (hsize.trans hml.symm) (argsL := As) (rest := rest) (fun sig h => hn.trans (hlen sig h)) hstack hW (by rw [hb]; exact hdg)
    (fun vm₁ hW₁ => ⟨hf.1, hf.2, hPc (T.setVm vm₁) hT hW₁⟩) with ⟨v, vm₁, ⟨U', l2, c2, s2⟩, hW₁, X', ⟨g', mk, t, L, e1, e2, hq, h1, hL, h2, h3⟩, st⟩ | ⟨q, vm₁, ⟨U', l2, c2, s2⟩, hW₁, X', ⟨g', mk, t, L, E, ce, e1, e2, hq, hce, hcv, hcl, h1, hL, h2, h3⟩, st⟩
  · dsimp only [Pt.U, Pt.locs, Pt.cells, Pt.slots] at X' e1 e2 h1 h2 h3 st
    subst h1; subst h2; subst h3
    exact Or.inl ⟨v, (T.setVm vm₁).calling g' mk (Value.ref b :: As).toArray, t, U', L, hT, X', hL, e1, e2, hq, st⟩
  · dsimp only [Pt.U, Pt.locs, Pt.cells, Pt.slots] at X' e1 e2 h1 h2 h3 st hcl
    subst h1; subst h2; subst h3
    exact Or.inr ⟨q, (T.setVm vm₁).calling g' mk (Value.ref b :: As).toArray, t, U', L, E, ce, hT, X', hL, e1, e2, hq, hce, hcv, vx_cls hW₁ hcl, st⟩
theorem vx_runS (S : CallFix p m c cc nL s args Ts own) (hM : vx_Met l y ws rm Pc Qc XC mc ms free) (cw : CallB R s args own index y bytes maxL ret ws rm mc ms n ∧ (Cond.static y).before args s = true) (hp : PreS s H Pc As)
    (hg : g.method = m) (hn : As.length = n) (hsize : g.locals.size = nL) (hstack : g.stack = As.reverse ++ rest) (hW : 2 * g.monitorRoom + (rest.map fun v => v.category).sum ≤ 8) (hdg : decode cc g.pc = .ok (.invokestatic index, 3)) (hf : cells + mc ≤ R.cells ∧ slots + ms ≤ R.slots) :
    vx_Run p l e R s m args below meth c H locs cells slots mc ms g rest (Qc As.toArray) XC free := by
  have hK : vx_Back l R p e below s args y 3 8 (PreOf R mc ms Pc) (PostOf Qc mc ms free) (vx_Post XC mc ms free) := vx_callBack cw.1 hM hp.1
  obtain ⟨⟨-, -, -, -, -, -, hcode, hini, hy, hlen, hl⟩, hstt⟩ := cw
  obtain ⟨hx, hb, hml, ho, -⟩ := S
  intro T hT X
  rcases vx_callS X hx (bytes := bytes) (maxL := maxL) (ret := ret) ho hl hstt hini hcode hy hK hg (hsize.trans hml.symm) (argsL := As) (rest := rest) (fun sig h => hn.trans (hlen sig h)) hstack hW (by rw [hb]; exact hdg)
    (fun vm₁ hW₁ => ⟨hf.1, hf.2, hp.2 (T.setVm vm₁) hT hW₁⟩) with ⟨v, vm₁, ⟨U', l2, c2, s2⟩, hW₁, X', ⟨g', mk, t, L, e1, e2, hq, h1, hL, h2, h3⟩, st⟩ | ⟨q, vm₁, ⟨U', l2, c2, s2⟩, hW₁, X', ⟨g', mk, t, L, E, ce, e1, e2, hq, hce, hcv, hcl, h1, hL, h2, h3⟩, st⟩
  · dsimp only [Pt.U, Pt.locs, Pt.cells, Pt.slots] at X' e1 e2 h1 h2 h3 st
    subst h1; subst h2; subst h3
    exact Or.inl ⟨v, (T.setVm vm₁).calling g' mk As.toArray, t, U', L, hT, X', hL, e1, e2, hq, st⟩
  · dsimp only [Pt.U, Pt.locs, Pt.cells, Pt.slots] at X' e1 e2 h1 h2 h3 st hcl
    subst h1; subst h2; subst h3
    exact Or.inr ⟨q, (T.setVm vm₁).calling g' mk As.toArray, t, U', L, E, ce, hT, X', hL, e1, e2, hq, hce, hcv, vx_cls hW₁ hcl, st⟩
end Runs
section Rows
variable {p : Program} {l : Launch} {e : Env} {R : Room} {s : State} {m : MethodId} {args : Array Value} {below : List Frame} {meth : Method} {c : Code} {H : Heap} {locs : List Loc} {cells slots : Nat} {Q : State → Prop}
variable {mc ms : Nat} {free : Addr → Prop} {A0 A1 : Nat → Prop} {H0 : Heap} {a : Array Value} {pc : Nat} {ls : Array Slot} {st0 rest : List Value}
theorem vx_keep {st₀ t T' : State} {L : List Loc} (h0 : st₀.heap = H) (e1 : T'.heap = t.heap) (hS : va_S A0 H0 H locs) (hA : ∀ q, q < H.size → A1 q → A0 q) (hf : ∀ q, free q → A0 q) (hL : ∀ q ∈ L, free q.base) (hF : va_F A1 st₀ t) :
    H.size ≤ T'.heap.size ∧ (∀ q : Nat, q < H.size → ¬ A1 q → T'.heap[q]? = H[q]?) ∧ va_S A0 H0 T'.heap (locs ++ L) := by
  obtain ⟨hz, hk⟩ := hF
  rw [h0] at hz hk
  exact ⟨by rw [e1]; exact hz, fun q h1 h2 => by rw [e1]; exact hk q h1 h2,
    ⟨Nat.le_trans hS.1 (by rw [e1]; exact hz), fun q h1 h2 => by rw [e1, hk q (Nat.lt_of_lt_of_le h1 hS.1) (fun z => h2 (hA q (Nat.lt_of_lt_of_le h1 hS.1) z))]; exact hS.2.1 q h1 h2, fun q hq => by
      rcases List.mem_append.mp hq with h | h
      · exact hS.2.2 q h
      · exact hf _ (hL q h)⟩⟩
theorem vx_calli {S SX : Type} {post : Int32 → S → Prop} {px : SX → Prop} {B : S → State → Prop} {BX : String → SX → State → Prop} {AX : Nat → Prop} (hr : vx_Run p l e R s m args below meth c H locs cells slots mc ms (F0 m pc ls st0) rest (va_Qi post B A1 a) (vx_X px BX AX) free) (hS : va_S A0 H0 H locs) (hA : ∀ q, q < H.size → A1 q → A0 q) (hf : ∀ q, free q → A0 q) (hAX : ∀ q, q < H.size → AX q → A0 q)
    (kx : ∀ (E : String) (ce : Cell) (q9 : Addr) (u : SX) (t : State) (H1 : Heap) (locs1 : List Loc), t.heap = H1 → s.vm.Alike t.vm → px u → BX E u t → H.size ≤ H1.size → (∀ q : Nat, q < H.size → ¬ AX q → H1[q]? = H[q]?) → va_S A0 H0 H1 locs1 → H1[q9]? = some ce → ce.vm = .none → s.vm.findClass E = some ce.cls → vx_W p l e R s m args below meth c H1 locs1 (cells + mc) (slots + ms) Q (F0 m pc ls rest) q9)
    (kk : ∀ (r : Int32) (u : S) (t : State) (H1 : Heap) (locs1 : List Loc), t.heap = H1 → s.vm.Alike t.vm → post r u → B u t → H.size ≤ H1.size → (∀ q : Nat, q < H.size → ¬ A1 q → H1[q]? = H[q]?) → va_S A0 H0 H1 locs1 → W p l e R s m args below meth c H1 locs1 (cells + mc) (slots + ms) Q (F0 m (pc + 3) ls (.int r :: rest))) : W p l e R s m args below meth c H locs cells slots Q (F0 m pc ls st0) := by
  intro T hT X
  rcases hr T hT X with ⟨v, st₀, t, T', L, h0, X', hL, e1, e2, ⟨⟨r, u, hv, hp, hb⟩, hF⟩, st⟩ | ⟨q, st₀, t, T', L, E, ce, h0, X', hL, e1, e2, ⟨u, hp, hb, hF⟩, hce, hcv, hcl, st⟩
  · cases hv
    obtain ⟨k1, k2, k3⟩ := vx_keep h0 e1 hS hA hf hL hF
    obtain ⟨t2, a1, b1⟩ := kk r u t T'.heap (locs ++ L) e1.symm (by rw [← e2]; exact X'.warmed.alike) hp hb k1 k2 k3 T' rfl X'
    exact ⟨t2, st t2 a1, b1⟩
  · obtain ⟨k1, k2, k3⟩ := vx_keep h0 e1 hS hAX hf hL hF
    obtain ⟨t2, a1, b1⟩ := kx E ce q u t T'.heap (locs ++ L) e1.symm (by rw [← e2]; exact X'.warmed.alike) hp hb k1 k2 k3 (by rw [e1]; exact hce) hcv hcl T' rfl X'
    exact ⟨t2, st.trans a1, b1⟩
theorem vx_calll {S SX : Type} {post : Int64 → S → Prop} {px : SX → Prop} {B : S → State → Prop} {BX : String → SX → State → Prop} {AX : Nat → Prop} (hr : vx_Run p l e R s m args below meth c H locs cells slots mc ms (F0 m pc ls st0) rest (va_Ql post B A1 a) (vx_X px BX AX) free) (hS : va_S A0 H0 H locs) (hA : ∀ q, q < H.size → A1 q → A0 q) (hf : ∀ q, free q → A0 q) (hAX : ∀ q, q < H.size → AX q → A0 q)
    (kx : ∀ (E : String) (ce : Cell) (q9 : Addr) (u : SX) (t : State) (H1 : Heap) (locs1 : List Loc), t.heap = H1 → s.vm.Alike t.vm → px u → BX E u t → H.size ≤ H1.size → (∀ q : Nat, q < H.size → ¬ AX q → H1[q]? = H[q]?) → va_S A0 H0 H1 locs1 → H1[q9]? = some ce → ce.vm = .none → s.vm.findClass E = some ce.cls → vx_W p l e R s m args below meth c H1 locs1 (cells + mc) (slots + ms) Q (F0 m pc ls rest) q9)
    (kk : ∀ (r : Int64) (u : S) (t : State) (H1 : Heap) (locs1 : List Loc), t.heap = H1 → s.vm.Alike t.vm → post r u → B u t → H.size ≤ H1.size → (∀ q : Nat, q < H.size → ¬ A1 q → H1[q]? = H[q]?) → va_S A0 H0 H1 locs1 → W p l e R s m args below meth c H1 locs1 (cells + mc) (slots + ms) Q (F0 m (pc + 3) ls (.long r :: rest))) : W p l e R s m args below meth c H locs cells slots Q (F0 m pc ls st0) := by
  intro T hT X
  rcases hr T hT X with ⟨v, st₀, t, T', L, h0, X', hL, e1, e2, ⟨⟨r, u, hv, hp, hb⟩, hF⟩, st⟩ | ⟨q, st₀, t, T', L, E, ce, h0, X', hL, e1, e2, ⟨u, hp, hb, hF⟩, hce, hcv, hcl, st⟩
  · cases hv
    obtain ⟨k1, k2, k3⟩ := vx_keep h0 e1 hS hA hf hL hF
    obtain ⟨t2, a1, b1⟩ := kk r u t T'.heap (locs ++ L) e1.symm (by rw [← e2]; exact X'.warmed.alike) hp hb k1 k2 k3 T' rfl X'
    exact ⟨t2, st t2 a1, b1⟩
  · obtain ⟨k1, k2, k3⟩ := vx_keep h0 e1 hS hAX hf hL hF
    obtain ⟨t2, a1, b1⟩ := kx E ce q u t T'.heap (locs ++ L) e1.symm (by rw [← e2]; exact X'.warmed.alike) hp hb k1 k2 k3 (by rw [e1]; exact hce) hcv hcl T' rfl X'
    exact ⟨t2, st.trans a1, b1⟩
theorem vx_callf {S SX : Type} {post : UInt32 → S → Prop} {px : SX → Prop} {B : S → State → Prop} {BX : String → SX → State → Prop} {AX : Nat → Prop} (hr : vx_Run p l e R s m args below meth c H locs cells slots mc ms (F0 m pc ls st0) rest (va_Qf post B A1 a) (vx_X px BX AX) free) (hS : va_S A0 H0 H locs) (hA : ∀ q, q < H.size → A1 q → A0 q) (hf : ∀ q, free q → A0 q) (hAX : ∀ q, q < H.size → AX q → A0 q)
    (kx : ∀ (E : String) (ce : Cell) (q9 : Addr) (u : SX) (t : State) (H1 : Heap) (locs1 : List Loc), t.heap = H1 → s.vm.Alike t.vm → px u → BX E u t → H.size ≤ H1.size → (∀ q : Nat, q < H.size → ¬ AX q → H1[q]? = H[q]?) → va_S A0 H0 H1 locs1 → H1[q9]? = some ce → ce.vm = .none → s.vm.findClass E = some ce.cls → vx_W p l e R s m args below meth c H1 locs1 (cells + mc) (slots + ms) Q (F0 m pc ls rest) q9)
    (kk : ∀ (r : UInt32) (u : S) (t : State) (H1 : Heap) (locs1 : List Loc), t.heap = H1 → s.vm.Alike t.vm → post r u → B u t → H.size ≤ H1.size → (∀ q : Nat, q < H.size → ¬ A1 q → H1[q]? = H[q]?) → va_S A0 H0 H1 locs1 → W p l e R s m args below meth c H1 locs1 (cells + mc) (slots + ms) Q (F0 m (pc + 3) ls (.float r :: rest))) : W p l e R s m args below meth c H locs cells slots Q (F0 m pc ls st0) := by
  intro T hT X
  rcases hr T hT X with ⟨v, st₀, t, T', L, h0, X', hL, e1, e2, ⟨⟨r, u, hv, hp, hb⟩, hF⟩, st⟩ | ⟨q, st₀, t, T', L, E, ce, h0, X', hL, e1, e2, ⟨u, hp, hb, hF⟩, hce, hcv, hcl, st⟩
  · cases hv
    obtain ⟨k1, k2, k3⟩ := vx_keep h0 e1 hS hA hf hL hF
    obtain ⟨t2, a1, b1⟩ := kk r u t T'.heap (locs ++ L) e1.symm (by rw [← e2]; exact X'.warmed.alike) hp hb k1 k2 k3 T' rfl X'
    exact ⟨t2, st t2 a1, b1⟩
  · obtain ⟨k1, k2, k3⟩ := vx_keep h0 e1 hS hAX hf hL hF
    obtain ⟨t2, a1, b1⟩ := kx E ce q u t T'.heap (locs ++ L) e1.symm (by rw [← e2]; exact X'.warmed.alike) hp hb k1 k2 k3 (by rw [e1]; exact hce) hcv hcl T' rfl X'
    exact ⟨t2, st.trans a1, b1⟩
theorem vx_calld {S SX : Type} {post : UInt64 → S → Prop} {px : SX → Prop} {B : S → State → Prop} {BX : String → SX → State → Prop} {AX : Nat → Prop} (hr : vx_Run p l e R s m args below meth c H locs cells slots mc ms (F0 m pc ls st0) rest (va_Qd post B A1 a) (vx_X px BX AX) free) (hS : va_S A0 H0 H locs) (hA : ∀ q, q < H.size → A1 q → A0 q) (hf : ∀ q, free q → A0 q) (hAX : ∀ q, q < H.size → AX q → A0 q)
    (kx : ∀ (E : String) (ce : Cell) (q9 : Addr) (u : SX) (t : State) (H1 : Heap) (locs1 : List Loc), t.heap = H1 → s.vm.Alike t.vm → px u → BX E u t → H.size ≤ H1.size → (∀ q : Nat, q < H.size → ¬ AX q → H1[q]? = H[q]?) → va_S A0 H0 H1 locs1 → H1[q9]? = some ce → ce.vm = .none → s.vm.findClass E = some ce.cls → vx_W p l e R s m args below meth c H1 locs1 (cells + mc) (slots + ms) Q (F0 m pc ls rest) q9)
    (kk : ∀ (r : UInt64) (u : S) (t : State) (H1 : Heap) (locs1 : List Loc), t.heap = H1 → s.vm.Alike t.vm → post r u → B u t → H.size ≤ H1.size → (∀ q : Nat, q < H.size → ¬ A1 q → H1[q]? = H[q]?) → va_S A0 H0 H1 locs1 → W p l e R s m args below meth c H1 locs1 (cells + mc) (slots + ms) Q (F0 m (pc + 3) ls (.double r :: rest))) : W p l e R s m args below meth c H locs cells slots Q (F0 m pc ls st0) := by
  intro T hT X
  rcases hr T hT X with ⟨v, st₀, t, T', L, h0, X', hL, e1, e2, ⟨⟨r, u, hv, hp, hb⟩, hF⟩, st⟩ | ⟨q, st₀, t, T', L, E, ce, h0, X', hL, e1, e2, ⟨u, hp, hb, hF⟩, hce, hcv, hcl, st⟩
  · cases hv
    obtain ⟨k1, k2, k3⟩ := vx_keep h0 e1 hS hA hf hL hF
    obtain ⟨t2, a1, b1⟩ := kk r u t T'.heap (locs ++ L) e1.symm (by rw [← e2]; exact X'.warmed.alike) hp hb k1 k2 k3 T' rfl X'
    exact ⟨t2, st t2 a1, b1⟩
  · obtain ⟨k1, k2, k3⟩ := vx_keep h0 e1 hS hAX hf hL hF
    obtain ⟨t2, a1, b1⟩ := kx E ce q u t T'.heap (locs ++ L) e1.symm (by rw [← e2]; exact X'.warmed.alike) hp hb k1 k2 k3 (by rw [e1]; exact hce) hcv hcl T' rfl X'
    exact ⟨t2, st.trans a1, b1⟩
theorem vx_callv {S SX : Type} {post : S → Prop} {px : SX → Prop} {B : S → State → Prop} {BX : String → SX → State → Prop} {AX : Nat → Prop} (hr : vx_Run p l e R s m args below meth c H locs cells slots mc ms (F0 m pc ls st0) rest (va_Qv post B A1 a) (vx_X px BX AX) free) (hS : va_S A0 H0 H locs) (hA : ∀ q, q < H.size → A1 q → A0 q) (hf : ∀ q, free q → A0 q) (hAX : ∀ q, q < H.size → AX q → A0 q)
    (kx : ∀ (E : String) (ce : Cell) (q9 : Addr) (u : SX) (t : State) (H1 : Heap) (locs1 : List Loc), t.heap = H1 → s.vm.Alike t.vm → px u → BX E u t → H.size ≤ H1.size → (∀ q : Nat, q < H.size → ¬ AX q → H1[q]? = H[q]?) → va_S A0 H0 H1 locs1 → H1[q9]? = some ce → ce.vm = .none → s.vm.findClass E = some ce.cls → vx_W p l e R s m args below meth c H1 locs1 (cells + mc) (slots + ms) Q (F0 m pc ls rest) q9)
    (kk : ∀ (u : S) (t : State) (H1 : Heap) (locs1 : List Loc), t.heap = H1 → s.vm.Alike t.vm → post u → B u t → H.size ≤ H1.size → (∀ q : Nat, q < H.size → ¬ A1 q → H1[q]? = H[q]?) → va_S A0 H0 H1 locs1 → W p l e R s m args below meth c H1 locs1 (cells + mc) (slots + ms) Q (F0 m (pc + 3) ls (rest))) : W p l e R s m args below meth c H locs cells slots Q (F0 m pc ls st0) := by
  intro T hT X
  rcases hr T hT X with ⟨v, st₀, t, T', L, h0, X', hL, e1, e2, ⟨⟨u, hv, hp, hb⟩, hF⟩, st⟩ | ⟨q, st₀, t, T', L, E, ce, h0, X', hL, e1, e2, ⟨u, hp, hb, hF⟩, hce, hcv, hcl, st⟩
  · cases hv
    obtain ⟨k1, k2, k3⟩ := vx_keep h0 e1 hS hA hf hL hF
    obtain ⟨t2, a1, b1⟩ := kk u t T'.heap (locs ++ L) e1.symm (by rw [← e2]; exact X'.warmed.alike) hp hb k1 k2 k3 T' rfl X'
    exact ⟨t2, st t2 a1, b1⟩
  · obtain ⟨k1, k2, k3⟩ := vx_keep h0 e1 hS hAX hf hL hF
    obtain ⟨t2, a1, b1⟩ := kx E ce q u t T'.heap (locs ++ L) e1.symm (by rw [← e2]; exact X'.warmed.alike) hp hb k1 k2 k3 (by rw [e1]; exact hce) hcv hcl T' rfl X'
    exact ⟨t2, st.trans a1, b1⟩
/-- caught by the row x of this method's table; the rows ahead don't take it -/
theorem vx_catch {own name : String} {E : String} {ce : Cell} {q : Addr} (hown : s.vm.findClass own = some m.cls) (pre : List ExceptionTableEntry) (x : ExceptionTableEntry) (suf : List ExceptionTableEntry) (hsplit : c.exceptionTable.toList = pre ++ x :: suf)
    (hpass : ∀ z ∈ pre, covers z pc = false ∨ (z.catchType ≠ 0 ∧ ∃ nm : String, (Cond.classLink own z.catchType nm).before args s = true ∧ va_Nc E nm s)) (hx : covers x pc = true) (h0 : x.catchType ≠ 0)
    (hlink : (Cond.classLink own x.catchType name).before args s = true) (hcast : (Cond.castable E name).before args s = true) (hcell : H[q]? = some ce) (hv : ce.vm = .none) (hcl : s.vm.findClass E = some ce.cls)
    (kk : W p l e R s m args below meth c H locs cells slots Q (F0 m x.handlerPc ls [.ref q])) : vx_W p l e R s m args below meth c H locs cells slots Q (F0 m pc ls rest) q := by
  intro T hT X
  have hpl : e.platform.magicAccessors = ({} : Platform).magicAccessors := by rw [X.admits.platform]
  obtain ⟨c3, c4, hc3, hc4, hasg⟩ := Cond.castable_spec hcast
  cases Option.some.inj (hc3.symm.trans hcl)
  obtain ⟨c5, hc5, hcl5⟩ := Cond.classLink_spec hown hlink e.platform hpl
  cases Option.some.inj (hc4.symm.trans hc5)
  obtain ⟨vm', X', st⟩ := X.thenCaughtThrough q (g := F0 m pc ls rest) rfl (Steps.refl _) (by rw [hT]; exact hcell) (by rw [hv]; rfl) (by obtain ⟨k9, h9, -⟩ := Vm.findClass_spec hcl; exact ⟨k9, h9⟩) pre x suf hsplit
    (fun z hz => by
      rcases hpass z hz with h | ⟨hz0, nm, hl1, hn1⟩
      · exact Or.inl h
      · obtain ⟨c6, hc6, hcl6⟩ := Cond.classLink_spec hown hl1 e.platform hpl
        obtain ⟨a8, b8, h1, h2, h3⟩ := hn1
        cases Option.some.inj (h1.symm.trans hcl)
        cases Option.some.inj (h2.symm.trans hc6)
        exact Or.inr ⟨hz0, _, hcl6, h3⟩) hx (Or.inr ⟨h0, c4, hcl5, hasg⟩)
  obtain ⟨t, a1, b1⟩ := kk (T.setVm vm') hT X'
  exact ⟨t, st.trans a1, b1⟩
end Rows
section Ends
variable {p : Program} {l : Launch} {e : Env} {R : Room} {s : State} {m : MethodId} {args : Array Value} {below : List Frame} {meth : Method} {c : Code} {H : Heap} {locs : List Loc} {cells slots : Nat} {Q : State → Prop}
variable {mc ms : Nat} {free : Addr → Prop} {A0 A1 : Nat → Prop} {H0 : Heap} {a : Array Value} {ls : Array Slot} {st0 rest : List Value}
variable {Qc : Array Value → State → Outcome → State → Prop} {XC : String → State → State → Prop}
/-- what a body that may throw owes at its end -/
def vx_MQ (below : List Frame) (Qc : Array Value → State → Outcome → State → Prop) (XC : String → State → State → Prop) (a : Array Value) (s : State) (mc ms : Nat) (free : Addr → Prop) : State → Prop := fun t =>
  ∃ o, t.status = .running ∧ Ended t below o ∧ vx_Q Qc XC mc ms free a s o t
theorem vx_ret {g : JFrame} {mc ms : Nat} (k : W p l e R s m args below meth c H locs cells slots (MQ below Qc args s mc ms free) g) : W p l e R s m args below meth c H locs cells slots (vx_MQ below Qc XC args s mc ms free) g := by
  intro T hT X
  obtain ⟨t, a1, o, b1, b2, b3, b4⟩ := k T hT X
  exact ⟨t, a1, o, b1, b2, Or.inl ⟨b3, b4⟩⟩
/-- not caught here: it goes on to the caller -/
theorem vx_widen {g : JFrame} {q : Addr} {k n : Nat} (h1 : cells ≤ k) (h2 : slots ≤ n) (kk : vx_W p l e R s m args below meth c H locs k n Q g q) : vx_W p l e R s m args below meth c H locs cells slots Q g q := fun T hT X => kk T hT (stand_widen X h1 h2)
theorem vx_out {pc : Nat} {E : String} {ce : Cell} {q : Addr} {mc ms : Nat} (hout : ∀ x ∈ c.exceptionTable.toList, covers x pc = false) (hlocks : meth.locks = false) (hcell : H[q]? = some ce) (hv : ce.vm = .none) (hcl : s.vm.findClass E = some ce.cls)
    (hx : ∀ t : State, t.heap = H → s.vm.Alike t.vm → XC E s t) (hf : ∀ z ∈ locs, free z.base) (hc : cells ≤ mc) (hs : slots ≤ ms) :
    vx_W p l e R s m args below meth c H locs cells slots (vx_MQ below Qc XC args s mc ms free) (F0 m pc ls rest) q := by
  intro T hT X
  obtain ⟨st1, hrun, hend, hW, hsm⟩ := X.leaveThrown q (g := F0 m pc ls rest) rfl rfl rfl hout hlocks
  have hcell9 : (T.setFrames (.throwing q :: below)).heap[q]? = some ce := by
    show T.heap[q]? = some ce
    rw [hT]; exact hcell
  exact ⟨_, st1, .threw q, hrun, hend, Or.inr ⟨q, rfl, E, ce, locs, hx _ hT hW.alike, hcell9, hv, hcl, hW, hsm.mono hc hs, hf⟩⟩
theorem vx_frame {U : State} {k n : Nat} (h : s.sameButNew ({ U with vm := s.vm } : State) locs k n) : s.heap.size ≤ U.heap.size ∧ ∀ q : Nat, q < s.heap.size → (∀ z ∈ locs, z.base ≠ q) → U.heap[q]? = s.heap[q]? := by
  obtain ⟨-, h2, -, -, -, h6⟩ := h
  refine ⟨h2, fun q hq hz => ?_⟩
  obtain ⟨c9, e1, e2, e3, e4⟩ := h6 q _ (Array.getElem?_eq_getElem hq)
  have hs : c9.slots = (s.heap[q]).slots := Array.ext_getElem? fun i => e4 i fun hm => hz _ hm rfl
  have h9 : c9 = s.heap[q] := by
    rw [hs] at e2
    exact e2
  have e5 : U.heap[q]? = some c9 := e1
  rw [e5, h9, Array.getElem?_eq_getElem hq]
/-- the words of a throw but the four that speak of the heap -/
def vx_no (w : Cond) : Bool := decide (w ≠ .isRef (.static Bundle.tN "UNASSIGNED_STACK" Bundle.steD)) && decide (w ≠ .isRef (.static Bundle.tN "SUPPRESSED_SENTINEL" Bundle.listD)) && decide (w ≠ .laysStatic Bundle.tN "UNASSIGNED_STACK" Bundle.steD) && decide (w ≠ .laysStatic Bundle.tN "SUPPRESSED_SENTINEL" Bundle.listD)
def vx_at0 (own : String) (ic : Nat) (X : String) (names : List String) : List Cond := (Bundle.ownAtoms0 own ic X names).filter vx_no
def vx_atS (own : String) (ic : Nat) (X : String) (names : List String) : List Cond := (Bundle.ownAtoms own ic X names).filter vx_no
/-- a word that the tables alone decide, or a good one -/
def vx_ot (w : Cond) : Bool := w.onTables || goodWord w
theorem vx_ot_at {args a' : Array Value} {s U : State} {w : Cond} (hW : s.WarmedH U.vm) (hvm : s.vm = U.vm) (hg : vx_ot w = true) (h : w.before args s = true) : w.before a' U = true := by
  simp only [vx_ot, Bool.or_eq_true] at hg
  rcases hg with hg | hg
  · exact va_tabs hg hvm h
  · exact word_at hW (good_of_word hg) h
/-- a list's words: the good ones out of the method's own list, the others by premises of their own -/
theorem vx_hat {args : Array Value} {s : State} {L B : List Cond} (h1 : ∀ w ∈ L.filter goodWord, w.before args s = true) (h2 : ∀ w ∈ L.filter (fun w => !goodWord w), w ∈ B) (h3 : ∀ w ∈ B, w.before args s = true) : ∀ w ∈ L, w.before args s = true := by
  intro w hw
  by_cases g : goodWord w = true
  · exact h1 w (List.mem_filter.mpr ⟨hw, g⟩)
  · refine h3 w (h2 w (List.mem_filter.mpr ⟨hw, ?_⟩))
    show (!goodWord w) = true
    cases hgw : goodWord w
    · rfl
    · exact absurd hgw g
theorem vx_c {args : Array Value} {s : State} {w : Cond} {B : List Cond} (h : w.before args s = true) (t : ∀ w ∈ B, w.before args s = true) : ∀ w' ∈ w :: B, w'.before args s = true := fun w' h' => (List.mem_cons.mp h').elim (fun e => by rw [e]; exact h) (t w')
theorem vx_n {args : Array Value} {s : State} : ∀ w ∈ ([] : List Cond), w.before args s = true := fun _ h => nomatch h
theorem vx_own {args : Array Value} {s : State} {L : List Cond} (h1 : ∀ w ∈ L.filter vx_no, w.before args s = true)
    (hU : (Cond.isRef (.static Bundle.tN "UNASSIGNED_STACK" Bundle.steD)).before args s = true) (hN : (Cond.isRef (.static Bundle.tN "SUPPRESSED_SENTINEL" Bundle.listD)).before args s = true)
    (lU : (Cond.laysStatic Bundle.tN "UNASSIGNED_STACK" Bundle.steD).before args s = true) (lN : (Cond.laysStatic Bundle.tN "SUPPRESSED_SENTINEL" Bundle.listD).before args s = true) : ∀ w ∈ L, w.before args s = true := by
  intro w hw
  by_cases e1 : w = .isRef (.static Bundle.tN "UNASSIGNED_STACK" Bundle.steD)
  · rw [e1]; exact hU
  · by_cases e2 : w = .isRef (.static Bundle.tN "SUPPRESSED_SENTINEL" Bundle.listD)
    · rw [e2]; exact hN
    · by_cases e3 : w = .laysStatic Bundle.tN "UNASSIGNED_STACK" Bundle.steD
      · rw [e3]; exact lU
      · by_cases e4 : w = .laysStatic Bundle.tN "SUPPRESSED_SENTINEL" Bundle.listD
        · rw [e4]; exact lN
        · exact h1 w (List.mem_filter.mpr ⟨hw, by unfold vx_no; rw [decide_eq_true e1, decide_eq_true e2, decide_eq_true e3, decide_eq_true e4]; rfl⟩)
/-- where a static field lies, its class's statics cell in H -/
def vx_L (C n d : String) (A : Nat → Prop) (U : State) (H : Heap) : Prop := ∃ (c : ClassId) (k : Class) (i : Nat) (f : Field) (a : Nat) (cell : Cell), U.vm.findClass C = some c ∧ U.fieldFound? C n d = some (c, k, i, f) ∧ f.isStatic = true ∧ k.statics = some a ∧ H[a]? = some cell ∧ cell.vm.isStatics = true ∧ cell.cls = c ∧ f.slot < cell.slots.size ∧ k.staticTypes[f.slot]? = some f.type ∧ ¬ A a
theorem vx_L.moved {C n d : String} {A : Nat → Prop} {u U : State} {H : Heap} (hvm : u.vm.Alike U.vm) (h : vx_L C n d A u H) : vx_L C n d A U H := by
  obtain ⟨c, k, i, f, a, cell, h1, h2, h3, h4, h5, h6, h7, h8, h9, h10⟩ := h
  obtain ⟨k', hi', he⟩ := State.fieldFound?_setVm hvm h2
  exact ⟨c, k', i, f, a, cell, by rw [hvm.findClass]; exact h1, hi', h3, by rw [he]; exact h4, h5, h6, h7, h8, by rw [he]; exact h9, h10⟩
theorem vx_L.kept {C n d : String} {A : Nat → Prop} {U : State} {H H1 : Heap} (h : vx_L C n d A U H) (hq : ∀ a : Nat, a < H.size → ¬ A a → H1[a]? = H[a]?) : vx_L C n d A U H1 := by
  obtain ⟨c, k, i, f, a, cell, h1, h2, h3, h4, h5, h6, h7, h8, h9, h10⟩ := h
  exact ⟨c, k, i, f, a, cell, h1, h2, h3, h4, by rw [hq a (Array.getElem?_eq_some_iff.mp h5).1 h10]; exact h5, h6, h7, h8, h9, h10⟩
theorem vx_L.narrow {C n d : String} {A B : Nat → Prop} {U : State} {H : Heap} (h : vx_L C n d A U H) (hAB : ∀ q, B q → A q) : vx_L C n d B U H := by
  obtain ⟨c, k, i, f, a, cell, h1, h2, h3, h4, h5, h6, h7, h8, h9, h10⟩ := h
  exact ⟨c, k, i, f, a, cell, h1, h2, h3, h4, h5, h6, h7, h8, h9, fun z => h10 (hAB _ z)⟩
theorem vx_L.word {C n d : String} {A : Nat → Prop} {s : State} {args : Array Value} (h : vx_L C n d A s s.heap) : (Cond.laysStatic C n d).before args s = true := by
  obtain ⟨c, k, i, f, a, cell, h1, h2, h3, h4, h5, h6, h7, h8, h9, -⟩ := h
  show (Cond.laysStatic C n d).holds args s none s [] = true
  exact Cond.laysStatic_of h1 h2 h3 h4 h5 h6 h7 h8 h9
/-- .. and what it holds: null or some reference -/
def vx_Zq (C n d : String) (A : Nat → Prop) (U : State) (H : Heap) : Prop := va_Zq C n d A U H ∧ vx_L C n d A U H
theorem vx_Zq.moved {C n d : String} {A : Nat → Prop} {u U : State} {H : Heap} (hvm : u.vm.Alike U.vm) (h : vx_Zq C n d A u H) : vx_Zq C n d A U H := ⟨va_Zq.moved hvm h.1, vx_L.moved hvm h.2⟩
theorem vx_Zq.kept {C n d : String} {A : Nat → Prop} {U : State} {H H1 : Heap} (h : vx_Zq C n d A U H) (hq : ∀ a : Nat, a < H.size → ¬ A a → H1[a]? = H[a]?) : vx_Zq C n d A U H1 := ⟨va_Zq.kept h.1 hq, vx_L.kept h.2 hq⟩
theorem vx_Zq.narrow {C n d : String} {A B : Nat → Prop} {U : State} {H : Heap} (h : vx_Zq C n d A U H) (hAB : ∀ q, B q → A q) : vx_Zq C n d B U H := ⟨va_Zq.narrow h.1 hAB, vx_L.narrow h.2 hAB⟩
theorem vx_Zqof {args : Array Value} {s : State} {C n d : String} {A : Nat → Prop} (hl : (Cond.laysStatic C n d).before args s = true) (hini : (Cond.initialized C).before args s = true) (h : (Cond.isRef (.static C n d)).before args s = true) (hA : ∀ a : Nat, a < s.heap.size → ¬ A a) : vx_Zq C n d A s s.heap := by
  refine ⟨va_Zqof hl hini h hA, ?_⟩
  obtain ⟨c, k, i, f, a, cell, h1, h2, h3, h4, h5, h6, h7, h8, h9⟩ := Cond.laysStatic_spec hl
  exact ⟨c, k, i, f, a, cell, h1, h2, h3, h4, h5, h6, h7, h8, h9, hA a (Array.getElem?_eq_some_iff.mp h5).1⟩
theorem vx_isRef {C n d : String} {v : Value} {A : Nat → Prop} {s : State} {args : Array Value} (h : va_Z C n d v A s s.heap) (hv : v.isRef = true) : (Cond.isRef (.static C n d)).before args s = true := by
  obtain ⟨cf, kf, fi, f, a, cell, h1, h2, h3, h4, h5, h6, h7, -⟩ := h
  have he : (Term.static C n d).eval args s none [] s = some v := by
    simp [Term.eval, State.fieldNamed?, h1, h2, h4, h5, h6, h7]
  simp only [Cond.before, Cond.holds, Cond.value, he]
  cases v <;> simp_all [Value.isRef]
theorem vx_isRefq {C n d : String} {A : Nat → Prop} {s : State} {args : Array Value} (h : va_Zq C n d A s s.heap) : (Cond.isRef (.static C n d)).before args s = true := by
  rcases h with h | ⟨t, h⟩
  · exact vx_isRef h rfl
  · exact vx_isRef h rfl
/-- the same frame, seen from here: as if the method were called anew in this heap -/
theorem vx_rebase {T : State} (X : Stand p l e R s m args below meth c T locs cells slots) {R' : Room} (hf : R'.frames ≤ R.frames) (hl : R'.locals ≤ R.locals) (hc : cells + R'.cells ≤ R.cells) (hs : slots + R'.slots ≤ R.slots) :
    Stand p l e R' ((T.setVm s.vm).setFrames (.invoking m args :: below)) m args below meth c T [] 0 0 := by
  have htop : (T.setVm s.vm).topJava?.isSome := X.here.top
  have hF : ((T.setVm s.vm).setFrames (.invoking m args :: below)).frames = .invoking m args :: below := State.frames_setFrames _ (State.cur_lt_of_top htop)
  obtain ⟨g₀, hg0⟩ := Option.isSome_iff_exists.mp htop
  obtain ⟨r, hr⟩ := State.topJava?_eq_some.mp hg0
  have hl9 : e.platform.stackLimits (T.setVm s.vm).me = e.platform.stackLimits s.me := X.limits
  have hb9 : (T.setVm s.vm).me.stackBytes = s.me.stackBytes := X.bytes
  refine ⟨X.admits, X.cas, X.clock, hF, ?_, X.hears, X.method, X.code, X.here, X.tail, X.warmed, ?_, ?_, ?_⟩
  · have h := X.room
    have hU : ((T.setVm s.vm).setFrames (.invoking m args :: below)).localsInUse = s.localsInUse := by
      rw [State.localsInUse_invoking hF (meth := meth) (c := c) X.method X.code, State.localsInUse_invoking X.frames X.method X.code]
    simp only [State.hasRoom, Bool.and_eq_true, decide_eq_true_eq] at h ⊢
    obtain ⟨⟨⟨⟨h1, h2, h3, h4, h5, h6⟩, h7⟩, h8⟩, h9⟩ := h
    rw [X.frames, List.length_cons] at h2 h3
    have q1 := X.heapSize
    have q2 := X.used
    simp only [hF, hU, List.length_cons, State.stackLimits_setFrames, State.stackBytes_setFrames, hl9, hb9]
    refine ⟨⟨⟨⟨by omega, by omega, by omega, by omega, by omega, h6⟩, ?_⟩, ?_⟩, X.book⟩
    · show T.heap.size + R'.cells ≤ e.platform.maxCells
      omega
    · show T.slotsUsed + R'.slots ≤ e.platform.maxSlots
      omega
  · rw [State.stackLimits_setFrames]; rfl
  · rw [State.stackBytes_setFrames]; rfl
  · refine ⟨?_, Nat.le_refl _, Nat.le_refl _, ?_, ?_, fun a c9 h9 => ⟨c9, h9, rfl, rfl, fun _ _ => rfl⟩⟩
    · obtain ⟨t, ht, -⟩ := State.frames_cons hr
      show T.setVm s.vm = { ((T.setVm s.vm).setFrames (.invoking m args :: below)).setFrames (T.setVm s.vm).frames with heap := T.heap, slotsUsed := T.slotsUsed }
      rw [State.setFrames_setFrames, State.setFrames_self ht]
      rfl
    · show T.slotsUsed = T.slotsUsed + ((T.heap.toList.drop T.heap.size).map (·.slots.size)).sum
      rw [List.drop_eq_nil_of_le (Nat.le_of_eq Array.length_toList)]
      rfl
    · show ((T.heap.toList.drop T.heap.size).map (·.slots.size)).sum ≤ 0
      rw [List.drop_eq_nil_of_le (Nat.le_of_eq Array.length_toList)]
      exact Nat.le_refl _
/-- 'throw new E()': new; dup; invokespecial; athrow -/
theorem vx_throw0 {cc : ByteArray} {pc : Nat} (hexec : p.tables.exec = Jvm.exec) (hb : c.code = cc) (hl : l.stackTraces = false) {own cls : String} {names : List String} {ik ic mc ms : Nat} {A : Nat → Prop}
    (hown : s.vm.findClass own = some m.cls) (hcls : Bundle.fit cls = true) (hnames : ∀ n ∈ names, Bundle.fit n = true)
    (hk : (Cond.classLink own ik cls).before args s = true) (hini : (Cond.initialized cls).before args s = true) (hat : ∀ w ∈ vx_at0 own ic cls names, w.before args s = true)
    (hgood : ∀ w ∈ Cond.classLink own ik cls :: Cond.initialized cls :: vx_at0 own ic cls names, vx_ot w = true)
    (hU : vx_Zq Bundle.tN "UNASSIGNED_STACK" Bundle.steD A s s.heap) (hN : vx_Zq Bundle.tN "SUPPRESSED_SENTINEL" Bundle.listD A s s.heap) (hS : va_S A s.heap H locs) (hsize : ls.size = c.maxLocals)
    (d0 : decode cc pc = .ok (.new ik, 3)) (d3 : decode cc (pc + 3) = .ok (.dup, 1)) (d4 : decode cc (pc + 4) = .ok (.invokespecial ic, 3)) (d7 : decode cc (pc + 7) = .ok (.athrow, 1))
    (hout : ∀ x ∈ c.exceptionTable.toList, covers x (pc + 7) = false)
    (hRframes : names.length + 3 < R.frames) (hRlocals : (rest.map fun v => v.category).sum + (13 * (names.length + 1) + 42) ≤ R.locals) (hRcells : cells + 1 ≤ R.cells) (hRslots : slots + 6 ≤ R.slots) (hlocks : meth.locks = false)
    (hx : ∀ t : State, s.vm.Alike t.vm → H.size ≤ t.heap.size → (∀ q : Nat, q < H.size → t.heap[q]? = H[q]?) → XC cls s t)
    (hf : ∀ z ∈ locs, free z.base) (hc : cells + 1 ≤ mc) (hs : slots + 6 ≤ ms) :
    W p l e R s m args below meth c H locs cells slots (vx_MQ below Qc XC args s mc ms free) (F0 m pc ls rest) := by
  intro T hT X
  have htr : e.platform.stackTraces = false := (show e.platform.stackTraces = l.stackTraces by rw [X.admits.platform]).trans hl
  have Y := vx_rebase X (R' := { frames := R.frames, locals := R.locals, cells := 1, slots := 6 }) (Nat.le_refl _) (Nat.le_refl _) hRcells hRslots
  obtain ⟨s', hA⟩ : ∃ z, z = (T.setVm s.vm).setFrames (.invoking m args :: below) := ⟨_, rfl⟩
  rw [← hA] at Y
  have hvm : s'.vm = s.vm := by rw [hA]; rfl
  have hhp : s'.heap = H := by rw [hA]; exact hT
  have hW0 : s.WarmedH s'.vm := by rw [hvm]; exact State.WarmedH.refl s
  have hat' : ∀ w ∈ vx_at0 own ic cls names, w.before args s' = true := fun w hw => vx_ot_at hW0 hvm.symm (hgood w (List.mem_cons_of_mem _ (List.mem_cons_of_mem _ hw))) (hat w hw)
  have hk' : (Cond.classLink own ik cls).before args s' = true := vx_ot_at hW0 hvm.symm (hgood _ List.mem_cons_self) hk
  have hini' : (Cond.initialized cls).before args s' = true := vx_ot_at hW0 hvm.symm (hgood _ (List.mem_cons_of_mem _ List.mem_cons_self)) hini
  have hU' : vx_Zq Bundle.tN "UNASSIGNED_STACK" Bundle.steD A s' s'.heap := by rw [hhp]; exact vx_Zq.moved hW0.alike (hU.kept hS.2.1)
  have hN' : vx_Zq Bundle.tN "SUPPRESSED_SENTINEL" Bundle.listD A s' s'.heap := by rw [hhp]; exact vx_Zq.moved hW0.alike (hN.kept hS.2.1)
  have h : ∀ w ∈ Bundle.ownAtoms0 own ic cls names, w.before args s' = true := vx_own hat' (vx_isRefq hU'.1) (vx_isRefq hN'.1) hU'.2.word hN'.2.word
  have hown' : s'.vm.findClass own = some m.cls := by rw [hvm]; exact hown
  have hins : (Cond.instantiable cls 6).before args s' = true := h _ (by simp [Bundle.ownAtoms0])
  obtain ⟨vm₁, cX, kX, hfX, hkX, -, -, X₁, st1⟩ := Y.newCold hexec (own := own) (C := cls) (index := ik) (n := 6) hown' hk' hins hini'
    (g := F0 m pc ls rest) rfl (by rw [hb]; exact d0) (Nat.le_refl _) (Nat.le_refl _)
  generalize hT1 : (T.setVm vm₁).pushCell { cls := cX, slots := kX.instanceTypes.map defaultValue, vm := .none } = T1 at X₁ st1
  have hcat : (Value.ref T.heap.size).category = 1 := rfl
  have hcellA : T1.heap[T.heap.size]? = some (freshCell cX kX) := by rw [← hT1]; exact State.heap_pushCell_size _ _
  have d3' : decode c.code (pc + 3) = .ok (.dup, 1) := by rw [hb]; exact d3
  obtain ⟨U, hsteps, hrun, hend, hW, hsame, ce, hce, hO⟩ := X₁.ctorThrow0 hexec htr (own := own) (cls := cls) (names := names) (ic := ic) hown' hcls hnames h (fun x hx => nomatch hx) hfX hkX hcellA (by rw [hhp, hT]; exact Nat.le_refl _)
    (g := { method := m, pc := pc + 4, locals := ls, stack := .ref T.heap.size :: .ref T.heap.size :: rest, locked := none }) rfl hsize rfl rfl (rest := rest) rfl
    (by rw [hb]; exact d4) (by rw [hb]; exact d7) hout hRframes (by simp only [List.map_cons, List.sum_cons, hcat]; omega) hlocks
  obtain ⟨f1, f2⟩ := vx_frame hsame
  rw [hhp] at f1 f2
  have hWs : s.WarmedH U.vm := State.WarmedH.trans hW0 hW
  have hcl : s.vm.findClass cls = some ce.cls := by
    have h9 := hO.cls
    rw [hvm] at h9
    exact h9
  have hall : s.sameButNew ({ U with vm := s.vm } : State) locs mc ms := by
    subst hA
    obtain ⟨e1, e2⟩ := hsame
    rw [State.setFrames_setFrames] at e1
    have h2 : (T.setVm s.vm).sameButNew ({ U with vm := s.vm } : State) [] (0 + 1) (0 + 6) := ⟨e1, e2⟩
    have h3 := X.same.trans h2
    rw [List.append_nil] at h3
    exact h3.mono hc hs
  refine ⟨U, ?_, .threw T.heap.size, hrun, hend, Or.inr ⟨T.heap.size, rfl, cls, ce, locs, hx U hWs.alike f1 (fun q hq => f2 q hq (fun z hz => nomatch hz)), hce, hO.vm, hcl, hWs, hall, hf⟩⟩
  refine st1 _ ?_
  show Steps p.tables e below (T1.setTop { method := m, pc := pc + 3, locals := ls, stack := .ref T.heap.size :: rest, locked := none }) _
  jvm_step X₁.here [X₁.here.top, hexec, d3', Value.category]
  exact hsteps
/-- 'throw new E("text")': new; dup; ldc; invokespecial; athrow -/
theorem vx_throwS {cc : ByteArray} {pc : Nat} (hexec : p.tables.exec = Jvm.exec) (hb : c.code = cc) (hl : l.stackTraces = false) {own cls text : String} {names : List String} {ik is ic mc ms sa : Nat} {A : Nat → Prop}
    (hown : s.vm.findClass own = some m.cls) (hcls : Bundle.fit cls = true) (hnames : ∀ n ∈ names, Bundle.fit n = true)
    (hk : (Cond.classLink own ik cls).before args s = true) (hini : (Cond.initialized cls).before args s = true) (hstr : vk_R own is text sa s) (hat : ∀ w ∈ vx_atS own ic cls names, w.before args s = true)
    (hgood : ∀ w ∈ Cond.classLink own ik cls :: Cond.initialized cls :: vx_atS own ic cls names, vx_ot w = true)
    (hU : vx_Zq Bundle.tN "UNASSIGNED_STACK" Bundle.steD A s s.heap) (hN : vx_Zq Bundle.tN "SUPPRESSED_SENTINEL" Bundle.listD A s s.heap) (hS : va_S A s.heap H locs) (hsize : ls.size = c.maxLocals)
    (d0 : decode cc pc = .ok (.new ik, 3)) (d3 : decode cc (pc + 3) = .ok (.dup, 1)) (d4 : decode cc (pc + 4) = .ok (.ldc is, 2)) (d6 : decode cc (pc + 6) = .ok (.invokespecial ic, 3)) (d9 : decode cc (pc + 9) = .ok (.athrow, 1))
    (hout : ∀ x ∈ c.exceptionTable.toList, covers x (pc + 9) = false)
    (hRframes : names.length + 3 < R.frames) (hRlocals : (rest.map fun v => v.category).sum + (13 * (names.length + 1) + 43) ≤ R.locals) (hRcells : cells + 1 ≤ R.cells) (hRslots : slots + 6 ≤ R.slots) (hlocks : meth.locks = false)
    (hx : ∀ t : State, s.vm.Alike t.vm → H.size ≤ t.heap.size → (∀ q : Nat, q < H.size → t.heap[q]? = H[q]?) → XC cls s t)
    (hf : ∀ z ∈ locs, free z.base) (hc : cells + 1 ≤ mc) (hs : slots + 6 ≤ ms) :
    W p l e R s m args below meth c H locs cells slots (vx_MQ below Qc XC args s mc ms free) (F0 m pc ls rest) := by
  intro T hT X
  have htr : e.platform.stackTraces = false := (show e.platform.stackTraces = l.stackTraces by rw [X.admits.platform]).trans hl
  have Y := vx_rebase X (R' := { frames := R.frames, locals := R.locals, cells := 1, slots := 6 }) (Nat.le_refl _) (Nat.le_refl _) hRcells hRslots
  obtain ⟨s', hA⟩ : ∃ z, z = (T.setVm s.vm).setFrames (.invoking m args :: below) := ⟨_, rfl⟩
  rw [← hA] at Y
  have hvm : s'.vm = s.vm := by rw [hA]; rfl
  have hhp : s'.heap = H := by rw [hA]; exact hT
  have hW0 : s.WarmedH s'.vm := by rw [hvm]; exact State.WarmedH.refl s
  have hat' : ∀ w ∈ vx_atS own ic cls names, w.before args s' = true := fun w hw => vx_ot_at hW0 hvm.symm (hgood w (List.mem_cons_of_mem _ (List.mem_cons_of_mem _ hw))) (hat w hw)
  have hk' : (Cond.classLink own ik cls).before args s' = true := vx_ot_at hW0 hvm.symm (hgood _ List.mem_cons_self) hk
  have hini' : (Cond.initialized cls).before args s' = true := vx_ot_at hW0 hvm.symm (hgood _ (List.mem_cons_of_mem _ List.mem_cons_self)) hini
  have hU' : vx_Zq Bundle.tN "UNASSIGNED_STACK" Bundle.steD A s' s'.heap := by rw [hhp]; exact vx_Zq.moved hW0.alike (hU.kept hS.2.1)
  have hN' : vx_Zq Bundle.tN "SUPPRESSED_SENTINEL" Bundle.listD A s' s'.heap := by rw [hhp]; exact vx_Zq.moved hW0.alike (hN.kept hS.2.1)
  have h : ∀ w ∈ Bundle.ownAtoms own ic cls names, w.before args s' = true := vx_own hat' (vx_isRefq hU'.1) (vx_isRefq hN'.1) hU'.2.word hN'.2.word
  have hown' : s'.vm.findClass own = some m.cls := by rw [hvm]; exact hown
  have hins : (Cond.instantiable cls 6).before args s' = true := h _ (by simp [Bundle.ownAtoms])
  obtain ⟨vm₁, cX, kX, hfX, hkX, -, -, X₁, st1⟩ := Y.newCold hexec (own := own) (C := cls) (index := ik) (n := 6) hown' hk' hins hini'
    (g := F0 m pc ls rest) rfl (by rw [hb]; exact d0) (Nat.le_refl _) (Nat.le_refl _)
  generalize hT1 : (T.setVm vm₁).pushCell { cls := cX, slots := kX.instanceTypes.map defaultValue, vm := .none } = T1 at X₁ st1
  have hcat : (Value.ref T.heap.size).category = 1 := rfl
  have hcellA : T1.heap[T.heap.size]? = some (freshCell cX kX) := by rw [← hT1]; exact State.heap_pushCell_size _ _
  have d3' : decode c.code (pc + 3) = .ok (.dup, 1) := by rw [hb]; exact d3
  have d4' : decode c.code (pc + 4) = .ok (.ldc is, 2) := by rw [hb]; exact d4
  have hstr' : vk_R own is text sa s' := vk_R.warm hW0 hstr
  obtain ⟨U, hsteps, hrun, hend, hW, hsame, ce, hce, hO⟩ := X₁.ctorThrowS hexec htr (own := own) (cls := cls) (names := names) (ic := ic) hown' hcls hnames h (fun x hx => nomatch hx) hfX hkX hcellA (by rw [hhp, hT]; exact Nat.le_refl _) (msg := .ref sa) rfl
    (g := { method := m, pc := pc + 6, locals := ls, stack := .ref sa :: .ref T.heap.size :: .ref T.heap.size :: rest, locked := none }) rfl hsize rfl rfl (rest := rest) rfl
    (by rw [hb]; exact d6) (by rw [hb]; exact d9) hout hRframes (by simp only [List.map_cons, List.sum_cons, hcat]; omega) hlocks
  obtain ⟨f1, f2⟩ := vx_frame hsame
  rw [hhp] at f1 f2
  have hWs : s.WarmedH U.vm := State.WarmedH.trans hW0 hW
  have hcl : s.vm.findClass cls = some ce.cls := by
    have h9 := hO.cls
    rw [hvm] at h9
    exact h9
  have hall : s.sameButNew ({ U with vm := s.vm } : State) locs mc ms := by
    subst hA
    obtain ⟨e1, e2⟩ := hsame
    rw [State.setFrames_setFrames] at e1
    have h2 : (T.setVm s.vm).sameButNew ({ U with vm := s.vm } : State) [] (0 + 1) (0 + 6) := ⟨e1, e2⟩
    have h3 := X.same.trans h2
    rw [List.append_nil] at h3
    exact h3.mono hc hs
  refine ⟨U, ?_, .threw T.heap.size, hrun, hend, Or.inr ⟨T.heap.size, rfl, cls, ce, locs, hx U hWs.alike f1 (fun q hq => f2 q hq (fun z hz => nomatch hz)), hce, hO.vm, hcl, hWs, hall, hf⟩⟩
  refine st1 _ ?_
  show Steps p.tables e below (T1.setTop { method := m, pc := pc + 3, locals := ls, stack := .ref T.heap.size :: rest, locked := none }) _
  jvm_step X₁.here [X₁.here.top, hexec, d3', Value.category]
  exact X₁.ldcString hexec (own := own) (text := text) (index := is) (a := sa) hown' hstr'.1 hstr'.2
    (g := { method := m, pc := pc + 4, locals := ls, stack := .ref T.heap.size :: .ref T.heap.size :: rest, locked := none }) rfl d4' _ hsteps
/-- 'throw new E("text")', the text by a wide index -/
theorem vx_throwSW {cc : ByteArray} {pc : Nat} (hexec : p.tables.exec = Jvm.exec) (hb : c.code = cc) (hl : l.stackTraces = false) {own cls text : String} {names : List String} {ik is ic mc ms sa : Nat} {A : Nat → Prop}
    (hown : s.vm.findClass own = some m.cls) (hcls : Bundle.fit cls = true) (hnames : ∀ n ∈ names, Bundle.fit n = true)
    (hk : (Cond.classLink own ik cls).before args s = true) (hini : (Cond.initialized cls).before args s = true) (hstr : vk_R own is text sa s) (hat : ∀ w ∈ vx_atS own ic cls names, w.before args s = true)
    (hgood : ∀ w ∈ Cond.classLink own ik cls :: Cond.initialized cls :: vx_atS own ic cls names, vx_ot w = true)
    (hU : vx_Zq Bundle.tN "UNASSIGNED_STACK" Bundle.steD A s s.heap) (hN : vx_Zq Bundle.tN "SUPPRESSED_SENTINEL" Bundle.listD A s s.heap) (hS : va_S A s.heap H locs) (hsize : ls.size = c.maxLocals)
    (d0 : decode cc pc = .ok (.new ik, 3)) (d3 : decode cc (pc + 3) = .ok (.dup, 1)) (d4 : decode cc (pc + 4) = .ok (.ldc_w is, 3)) (d7 : decode cc (pc + 7) = .ok (.invokespecial ic, 3)) (d10 : decode cc (pc + 10) = .ok (.athrow, 1))
    (hout : ∀ x ∈ c.exceptionTable.toList, covers x (pc + 10) = false)
    (hRframes : names.length + 3 < R.frames) (hRlocals : (rest.map fun v => v.category).sum + (13 * (names.length + 1) + 43) ≤ R.locals) (hRcells : cells + 1 ≤ R.cells) (hRslots : slots + 6 ≤ R.slots) (hlocks : meth.locks = false)
    (hx : ∀ t : State, s.vm.Alike t.vm → H.size ≤ t.heap.size → (∀ q : Nat, q < H.size → t.heap[q]? = H[q]?) → XC cls s t)
    (hf : ∀ z ∈ locs, free z.base) (hc : cells + 1 ≤ mc) (hs : slots + 6 ≤ ms) :
    W p l e R s m args below meth c H locs cells slots (vx_MQ below Qc XC args s mc ms free) (F0 m pc ls rest) := by
  intro T hT X
  have htr : e.platform.stackTraces = false := (show e.platform.stackTraces = l.stackTraces by rw [X.admits.platform]).trans hl
  have Y := vx_rebase X (R' := { frames := R.frames, locals := R.locals, cells := 1, slots := 6 }) (Nat.le_refl _) (Nat.le_refl _) hRcells hRslots
  obtain ⟨s', hA⟩ : ∃ z, z = (T.setVm s.vm).setFrames (.invoking m args :: below) := ⟨_, rfl⟩
  rw [← hA] at Y
  have hvm : s'.vm = s.vm := by rw [hA]; rfl
  have hhp : s'.heap = H := by rw [hA]; exact hT
  have hW0 : s.WarmedH s'.vm := by rw [hvm]; exact State.WarmedH.refl s
  have hat' : ∀ w ∈ vx_atS own ic cls names, w.before args s' = true := fun w hw => vx_ot_at hW0 hvm.symm (hgood w (List.mem_cons_of_mem _ (List.mem_cons_of_mem _ hw))) (hat w hw)
  have hk' : (Cond.classLink own ik cls).before args s' = true := vx_ot_at hW0 hvm.symm (hgood _ List.mem_cons_self) hk
  have hini' : (Cond.initialized cls).before args s' = true := vx_ot_at hW0 hvm.symm (hgood _ (List.mem_cons_of_mem _ List.mem_cons_self)) hini
  have hU' : vx_Zq Bundle.tN "UNASSIGNED_STACK" Bundle.steD A s' s'.heap := by rw [hhp]; exact vx_Zq.moved hW0.alike (hU.kept hS.2.1)
  have hN' : vx_Zq Bundle.tN "SUPPRESSED_SENTINEL" Bundle.listD A s' s'.heap := by rw [hhp]; exact vx_Zq.moved hW0.alike (hN.kept hS.2.1)
  have h : ∀ w ∈ Bundle.ownAtoms own ic cls names, w.before args s' = true := vx_own hat' (vx_isRefq hU'.1) (vx_isRefq hN'.1) hU'.2.word hN'.2.word
  have hown' : s'.vm.findClass own = some m.cls := by rw [hvm]; exact hown
  have hins : (Cond.instantiable cls 6).before args s' = true := h _ (by simp [Bundle.ownAtoms])
  obtain ⟨vm₁, cX, kX, hfX, hkX, -, -, X₁, st1⟩ := Y.newCold hexec (own := own) (C := cls) (index := ik) (n := 6) hown' hk' hins hini'
    (g := F0 m pc ls rest) rfl (by rw [hb]; exact d0) (Nat.le_refl _) (Nat.le_refl _)
  generalize hT1 : (T.setVm vm₁).pushCell { cls := cX, slots := kX.instanceTypes.map defaultValue, vm := .none } = T1 at X₁ st1
  have hcat : (Value.ref T.heap.size).category = 1 := rfl
  have hcellA : T1.heap[T.heap.size]? = some (freshCell cX kX) := by rw [← hT1]; exact State.heap_pushCell_size _ _
  have d3' : decode c.code (pc + 3) = .ok (.dup, 1) := by rw [hb]; exact d3
  have d4' : decode c.code (pc + 4) = .ok (.ldc_w is, 3) := by rw [hb]; exact d4
  have hstr' : vk_R own is text sa s' := vk_R.warm hW0 hstr
  obtain ⟨U, hsteps, hrun, hend, hW, hsame, ce, hce, hO⟩ := X₁.ctorThrowS hexec htr (own := own) (cls := cls) (names := names) (ic := ic) hown' hcls hnames h (fun x hx => nomatch hx) hfX hkX hcellA (by rw [hhp, hT]; exact Nat.le_refl _) (msg := .ref sa) rfl
    (g := { method := m, pc := pc + 7, locals := ls, stack := .ref sa :: .ref T.heap.size :: .ref T.heap.size :: rest, locked := none }) rfl hsize rfl rfl (rest := rest) rfl
    (by rw [hb]; exact d7) (by rw [hb]; exact d10) hout hRframes (by simp only [List.map_cons, List.sum_cons, hcat]; omega) hlocks
  obtain ⟨f1, f2⟩ := vx_frame hsame
  rw [hhp] at f1 f2
  have hWs : s.WarmedH U.vm := State.WarmedH.trans hW0 hW
  have hcl : s.vm.findClass cls = some ce.cls := by
    have h9 := hO.cls
    rw [hvm] at h9
    exact h9
  have hall : s.sameButNew ({ U with vm := s.vm } : State) locs mc ms := by
    subst hA
    obtain ⟨e1, e2⟩ := hsame
    rw [State.setFrames_setFrames] at e1
    have h2 : (T.setVm s.vm).sameButNew ({ U with vm := s.vm } : State) [] (0 + 1) (0 + 6) := ⟨e1, e2⟩
    have h3 := X.same.trans h2
    rw [List.append_nil] at h3
    exact h3.mono hc hs
  refine ⟨U, ?_, .threw T.heap.size, hrun, hend, Or.inr ⟨T.heap.size, rfl, cls, ce, locs, hx U hWs.alike f1 (fun q hq => f2 q hq (fun z hz => nomatch hz)), hce, hO.vm, hcl, hWs, hall, hf⟩⟩
  refine st1 _ ?_
  show Steps p.tables e below (T1.setTop { method := m, pc := pc + 3, locals := ls, stack := .ref T.heap.size :: rest, locked := none }) _
  jvm_step X₁.here [X₁.here.top, hexec, d3', Value.category]
  exact X₁.ldcStringW hexec (own := own) (text := text) (index := is) (a := sa) hown' hstr'.1 hstr'.2
    (g := { method := m, pc := pc + 4, locals := ls, stack := .ref T.heap.size :: .ref T.heap.size :: rest, locked := none }) rfl d4' _ hsteps
end Ends
section Bodies
variable {l : Launch}
theorem vx_ofW {y : MethodName} {ws ws' : List Cond} {rm : Room} {Pc : Array Value → State → Prop} {Qc : Array Value → State → Outcome → State → Prop} {XC : String → State → State → Prop} {mc ms : Nat} {free : Addr → Prop} {cc : ByteArray} {maxL : Nat} {ret : Option FieldType}
    (hy : plainName y.cls = true) (hw : ws = Cond.code y cc maxL ret :: ws')
    (body : ∀ p e s m args below meth c s₁, BodyLoose p l y (headSpec ws rm) cc maxL ret e s m args below meth c s₁ → c.maxLocals = maxL → (∀ x ∈ c.exceptionTable.toList, False) → Pc args s →
      W p l e (headSpec ws rm).room s m args below meth c s.heap [] 0 0 (vx_MQ below Qc XC args s mc ms free) (entryFrame m args maxL)) : vx_Met l y ws rm Pc Qc XC mc ms free := by
  refine MetFree.of_bodyS (code := cc) (maxLocals := maxL) (ret := ret) hy ?_ ?_
  · intro args s m h hn
    obtain ⟨meth, c, h1, h2, h3, h4, h5, h6, -, -⟩ := Cond.code_spec hn (atoms_spec (ws := ws) h _ (by rw [hw]; exact List.mem_cons_self))
    exact ⟨meth, c, h1, h2, h3, h4, h5, h6⟩
  · intro p e s m args below meth c s₁ B hml hP _
    have hh0 : s₁.heap = s.heap := by rw [B.state]; rfl
    have ht : ∀ x ∈ c.exceptionTable.toList, False := by
      obtain ⟨meth9, c9, h1, h2, -, -, -, -, h7, -⟩ := Cond.code_spec B.named (atoms_spec (ws := ws) B.pre _ (by rw [hw]; exact List.mem_cons_self))
      cases Option.some.inj (h1.symm.trans B.method)
      cases Option.some.inj (h2.symm.trans (Stand.of_body B).code)
      intro x hx
      rw [Array.isEmpty_iff.mp h7] at hx
      cases hx
    obtain ⟨t, a1, o, b1, b2, b3⟩ := body p e s m args below meth c s₁ B hml ht hP s₁ hh0 (Stand.of_body B)
    exact ⟨t, o, a1, b1, b2, b3⟩
/-- the table of a body with handlers -/
theorem vx_table {p : Program} {x y : MethodName} {S : Spec} {cc bytes : ByteArray} {maxL maxL' : Nat} {ret ret' : Option FieldType} {e : Env} {s s₁ : State} {m : MethodId} {args : Array Value} {below : List Frame} {meth : Method} {c : Code} {hh : List (Nat × Nat × Nat × Nat)}
    (B : BodyLoose p l y S cc maxL ret e s m args below meth c s₁) (h : (Cond.codeWith y bytes maxL' ret' hh).before args s = true) : c.exceptionTable.toList = tableOf hh := by
  obtain ⟨m9, meth9, c9, hn9, h1, h2, -, -, h6, -⟩ := Cond.codeWith_spec h
  cases Option.some.inj (hn9.symm.trans B.named)
  cases Option.some.inj (h1.symm.trans B.method)
  cases Option.some.inj (h2.symm.trans (Stand.of_body B).code)
  rw [← h6, table_eq]
end Bodies
end VXA
/-! ===== END ===== -/
/-! ===== BEGIN a static call of a method with an exception table ===== -/
section VXS
variable {p : Program} {l : Launch} {e : Env} {R : Room} {s : State} {m : MethodId} {args : Array Value} {below : List Frame} {meth : Method} {c : Code} {T : State} {H : Heap} {locs : List Loc} {cells slots : Nat}
abbrev vx_CSW (R : Room) (s : State) (args : Array Value) (own : String) (index : Nat) (y : MethodName) (bytes : ByteArray) (maxL : Nat) (ret : Option FieldType) (hh : List (Nat × Nat × Nat × Nat)) (ws : List Cond) (rm : Room) (mc ms n : Nat) : Prop :=
  (rm.cells = mc ∧ rm.slots = ms ∧ rm.frames + 1 ≤ R.frames ∧ 8 + (maxL + 11) + rm.locals ≤ R.locals ∧ (∀ w ∈ ws, ∀ (a' : Array Value) (U : State), s.WarmedH U.vm → w.before a' U = true) ∧ Cond.codeWith y bytes maxL ret hh ∈ ws) ∧
  (Cond.codeWith y bytes maxL ret hh).before args s = true ∧ (Cond.initialized y.cls).before args s = true ∧ (y.cls ≠ "java/lang/invoke/MethodHandle" ∧ y.cls ≠ "java/lang/invoke/VarHandle") ∧
  (∀ sig, parseMethodDescriptor y.desc = some sig → n = sig.parameters.length) ∧ (Cond.methodLink own index y).before args s = true ∧ (Cond.static y).before args s = true
theorem vx_cwSW {own : String} {index maxL mc ms : Nat} {y : MethodName} {bytes : ByteArray} {ret : Option FieldType} {hh : List (Nat × Nat × Nat × Nat)} {Ts ws ws' : List Cond} {rm : Room} (n : Nat) (ht : ∀ w ∈ Ts, w.before args s = true) (hT : GoodIn Ts (va_wsS own index y ws)) (hw : ws = Cond.codeWith y bytes maxL ret hh :: ws') (hrc : rm.cells = mc) (hrs : rm.slots = ms)
    (hd : y.cls ≠ "java/lang/invoke/MethodHandle" ∧ y.cls ≠ "java/lang/invoke/VarHandle" ∧ (parseMethodDescriptor y.desc).map (fun d => d.parameters.length) = some n) (hR : rm.frames + 1 ≤ R.frames ∧ 8 + (maxL + 11) + rm.locals ≤ R.locals) :
    vx_CSW R s args own index y bytes maxL ret hh ws rm mc ms n := by
  have ok : ∀ w ∈ va_wsS own index y ws, w.before args s = true := fun w h => ht w (hT w h).1
  have hG : GoodIn Ts ws := fun w h => hT w (by unfold va_wsS; exact List.mem_append_right _ h)
  have hc : Cond.codeWith y bytes maxL ret hh ∈ ws := by rw [hw]; exact List.mem_cons_self
  refine ⟨⟨hrc, hrs, hR.1, hR.2, pay_in ht hG, hc⟩, ht _ (hG _ hc).1, ok _ (by simp [va_wsS]), ⟨hd.1, hd.2.1⟩, fun sig h => ?_, ok _ (by simp [va_wsS]), ok _ (by simp [va_wsS])⟩
  have h2 := hd.2.2
  rw [h] at h2
  exact (Option.some.inj h2).symm
theorem vx_callSW (X : Stand p l e R s m args below meth c T locs cells slots) (hexec : p.tables.exec = Jvm.exec) {own : String} {index : Nat} {y : MethodName} {bytes : ByteArray} {maxL : Nat} {ret : Option FieldType} {hh : List (Nat × Nat × Nat × Nat)}
    (hown : s.vm.findClass own = some m.cls) (hlink : (Cond.methodLink own index y).before args s = true) (hstat : (Cond.static y).before args s = true) (hinit : (Cond.initialized y.cls).before args s = true)
    (hcode : (Cond.codeWith y bytes maxL ret hh).before args s = true) (hy : y.cls ≠ "java/lang/invoke/MethodHandle" ∧ y.cls ≠ "java/lang/invoke/VarHandle")
    {W9 : Nat} {Pre : Pt → Array Value → Prop} {Post : Pt → Array Value → Option Value → Pt → Prop} (hK : Back l R p e below s args y 3 W9 Pre Post)
    {g : JFrame} (hg : g.method = m) (hsize : g.locals.size = c.maxLocals) {argsL rest : List Value} (hlen : ∀ sig, parseMethodDescriptor y.desc = some sig → argsL.length = sig.parameters.length)
    (hstack : g.stack = argsL.reverse ++ rest) (hW : 2 * g.monitorRoom + (rest.map fun v => v.category).sum ≤ W9) (hdg : decode c.code g.pc = .ok (.invokestatic index, 3))
    (hpre : ∀ vm₁, s.WarmedH vm₁ → Pre ⟨T.setVm vm₁, locs, cells, slots⟩ argsL.toArray) :
    ∃ (v : Option Value) (vm₁ : Vm) (B : Pt), s.WarmedH vm₁ ∧ Stand p l e R s m args below meth c B.U B.locs B.cells B.slots ∧ Post ⟨T.setVm vm₁, locs, cells, slots⟩ argsL.toArray v B ∧
      ∀ target, Steps p.tables e below (B.U.setTop { g with pc := g.pc + 3, stack := v.toList ++ rest }) target → Steps p.tables e below (T.setTop g) target := by
  obtain ⟨mk, methM, cM, hnamed, hmethM, -, -, -, -, -, -, hsigM⟩ := Cond.codeWith_spec hcode
  have hstatic : methM.isStatic = true := Cond.static_spec hnamed hmethM hstat
  obtain ⟨kP, hkP, -⟩ := className_of_methodNamed hnamed
  have hinitP : kP.init = .initialized := Cond.initialized_spec (findClass_of_methodNamed hnamed) hkP hinit
  obtain ⟨vm₁, X₁, hstep₁⟩ := X.invokestatic hexec hown hlink hnamed hmethM hstatic hkP hinitP hy (g := g) hg (argsL := argsL) (rest := rest) (hlen _ hsigM) hstack hdg
  obtain ⟨v, B, X', hpost, hsteps⟩ := hK m meth c ⟨T.setVm vm₁, locs, cells, slots⟩ { g with stack := rest } (.invokestatic index) mk argsL.toArray X₁ hg hsize hdg hW (X₁.named hnamed) (hpre vm₁ X₁.warmed)
  exact ⟨v, vm₁, B, X₁.warmed, X', hpost, fun target h => hstep₁ _ fun acts => by rw [doInvoke_state]; exact hsteps.trans h⟩
theorem vx_runSW {y : MethodName} {bytes cc : ByteArray} {maxL nL mc ms n index : Nat} {ret : Option FieldType} {hh : List (Nat × Nat × Nat × Nat)} {ws : List Cond} {rm : Room} {Pc : Array Value → State → Prop} {Qc : Array Value → State → Outcome → State → Prop} {free : Addr → Prop} {Ts : List Cond} {own : String} {As rest : List Value} {g : JFrame}
    (S : CallFix p m c cc nL s args Ts own) (hM : Met l y ws rm Pc Qc mc ms free) (cw : vx_CSW R s args own index y bytes maxL ret hh ws rm mc ms n) (hp : PreS s H Pc As)
    (hg : g.method = m) (hn : As.length = n) (hsize : g.locals.size = nL) (hstack : g.stack = As.reverse ++ rest) (hW : 2 * g.monitorRoom + (rest.map fun v => v.category).sum ≤ 8) (hdg : decode cc g.pc = .ok (.invokestatic index, 3)) (hf : cells + mc ≤ R.cells ∧ slots + ms ≤ R.slots) :
    va_Run p l e R s m args below meth c H locs cells slots mc ms g rest (Qc As.toArray) (free) := by
  obtain ⟨⟨hrc, hrs, hfr, hlo, hws, hcw⟩, hcode, hini, hy, hlen, hl, hstt⟩ := cw
  have hK : Back l R p e below s args y 3 8 (PreOf R mc ms Pc) (PostOf Qc mc ms free) := va_backW (hh := hh) (bytes := bytes) (maxL := maxL) (ret := ret) hM hp.1 hrc hrs hfr hlo hws hcw (fun a' U hW => word_at hW (Or.inl (by first | rfl | simp [Cond.onTables, Cond.keeps, Cond.steady])) hini)
  obtain ⟨hx, hb, hml, ho, -⟩ := S
  intro T hT X
  obtain ⟨v, vm₁, ⟨U', l2, c2, s2⟩, hW₁, X', ⟨g', mk, t, L, e1, e2, hq, h1, hL, h2, h3⟩, st⟩ := vx_callSW X hx (hh := hh) (bytes := bytes) (maxL := maxL) (ret := ret) ho hl hstt hini hcode hy hK hg (hsize.trans hml.symm) (argsL := As) (rest := rest) (fun sig h => hn.trans (hlen sig h)) hstack hW (by rw [hb]; exact hdg)
    (fun vm₁ hW₁ => ⟨hf.1, hf.2, hp.2 (T.setVm vm₁) hT hW₁⟩)
  dsimp only [Pt.U, Pt.locs, Pt.cells, Pt.slots] at X' e1 e2 h1 h2 h3 st
  subst h1; subst h2; subst h3
  exact ⟨v, (T.setVm vm₁).calling g' mk As.toArray, t, U', L, hT, X', hL, e1, e2, hq, st⟩
/-- not caught here, past rows that name other classes: it goes on to the caller -/
theorem vx_outP {p : Program} {l : Launch} {e : Env} {R : Room} {s : State} {m : MethodId} {args : Array Value} {below : List Frame} {meth : Method} {c : Code} {H : Heap} {locs : List Loc} {cells slots : Nat} {free : Addr → Prop} {ls : Array Slot} {rest : List Value} {Qc : Array Value → State → Outcome → State → Prop} {XC : String → State → State → Prop}
    {pc : Nat} {own E : String} {ce : Cell} {q : Addr} {mc ms : Nat} (hown : s.vm.findClass own = some m.cls) (hlocks : meth.locks = false)
    (hpass : ∀ z ∈ c.exceptionTable.toList, covers z pc = false ∨ (z.catchType ≠ 0 ∧ ∃ nm : String, (Cond.classLink own z.catchType nm).before args s = true ∧ va_Nc E nm s)) (hcell : H[q]? = some ce) (hv : ce.vm = .none) (hcl : s.vm.findClass E = some ce.cls)
    (hx : ∀ t : State, t.heap = H → s.vm.Alike t.vm → XC E s t) (hf : ∀ z ∈ locs, free z.base) (hc : cells ≤ mc) (hs : slots ≤ ms) :
    vx_W p l e R s m args below meth c H locs cells slots (vx_MQ below Qc XC args s mc ms free) (F0 m pc ls rest) q := by
  intro T hT X
  have hpl : e.platform.magicAccessors = ({} : Platform).magicAccessors := by rw [X.admits.platform]
  obtain ⟨vm', hW', X', st⟩ := X.outThrough hlocks q (g := F0 m pc ls rest) rfl rfl rfl (cell := ce) (by rw [hT]; exact hcell) (by rw [hv]; rfl)
    (by obtain ⟨k9, h9, -⟩ := Vm.findClass_spec hcl; exact ⟨k9, h9⟩) (fun z hz => by
      rcases hpass z hz with h | ⟨hz0, nm, hl1, hn1⟩
      · exact Or.inl h
      · obtain ⟨c6, hc6, hcl6⟩ := Cond.classLink_spec hown hl1 e.platform hpl
        obtain ⟨a8, b8, h1, h2, h3⟩ := hn1
        cases Option.some.inj (h1.symm.trans hcl)
        cases Option.some.inj (h2.symm.trans hc6)
        exact Or.inr ⟨hz0, _, hcl6, h3⟩)
  obtain ⟨g₀, hfr⟩ := X'.frames_eq
  have hcell9 : ((T.setVm vm').setFrames (.throwing q :: below)).heap[q]? = some ce := by
    show T.heap[q]? = some ce
    rw [hT]; exact hcell
  have hend : Ended ((T.setVm vm').setFrames (.throwing q :: below)) below (.threw q) := State.frames_setFrames _ (State.cur_lt_of_frames hfr)
  refine ⟨(T.setVm vm').setFrames (.throwing q :: below), ?_, .threw q, X'.here.running, hend, Or.inr ⟨q, rfl, E, ce, locs, hx _ hT (X'.ends _).1.alike, hcell9, hv, hcl, (X'.ends _).1, (X'.ends _).2.mono hc hs, hf⟩⟩
  rw [X.pushThrowing_eq]
  exact st
/-- a thing of a world lies in the heap -/
theorem vx_lt {D : va_G} {cl : List vw_C} {ws : va_W} {H1 : Heap} (h : va_P D cl ws H1) {k : Nat} {q : Nat × va_E} (hk : ws[k]? = some q) : q.1 < H1.size := (h k q hk).lt
end VXS
/-! ===== END ===== -/
/-! ===== BEGIN methods with a table of their own: called by a name, returning or throwing ===== -/
section VXH
/-! vx_backW, vx_callVX, vx_callSX, vx_callVW, vx_runVW, vx_runVX, vx_runSX, vx_ofWH follow the same proofs as their sisters above (Free/Laws.lean, Shelf42/LK1.lean); vx_outP calls Shelf42/NT130.lean (outThrough). -/
section
variable {l : Launch} {R : Room} {p : Program} {e : Env} {below : List Frame} {s : State} {sargs : Array Value} {y : MethodName} {len W9 : Nat}
theorem vx_backW {ws : List Cond} {rm : Room} {Pc : Array Value → State → Prop} {Qc : Array Value → State → Outcome → State → Prop} {XC : String → State → State → Prop} {mc ms : Nat} {free : Addr → Prop} {bytes : ByteArray} {maxL : Nat} {ret : Option FieldType} {hh : List (Nat × Nat × Nat × Nat)}
    (hM : vx_Met l y ws rm Pc Qc XC mc ms free) (hblind : FrameBlind Pc) (hrc : rm.cells = mc) (hrs : rm.slots = ms)
    (hframes : rm.frames + 1 ≤ R.frames) (hlocals : W9 + (maxL + 11) + rm.locals ≤ R.locals)
    (hws : ∀ w ∈ ws, ∀ a' U, s.WarmedH U.vm → w.before a' U = true) (hcode : Cond.codeWith y bytes maxL ret hh ∈ ws) (hinit : ∀ a' U, s.WarmedH U.vm → (Cond.initialized y.cls).before a' U = true) :
    vx_Back l R p e below s sargs y len W9 (PreOf R mc ms Pc) (PostOf Qc mc ms free) (vx_Post XC mc ms free) := by
  intro m meth c A g ig mk a X hg hsize hdg hW hn hp
  have h1 : (headSpec ws rm).pre.before a A.U = true := atoms_intro fun w hw => hws w hw _ _ X.warmed
  have h2 : (Cond.codeWith y bytes maxL ret hh).before a A.U = true := hws _ hcode _ _ X.warmed
  have h3 : (Cond.initialized y.cls).before a A.U = true := hinit _ _ X.warmed
  have h4 : A.cells + (headSpec ws rm).room.cells ≤ R.cells := by rw [show (headSpec ws rm).room.cells = mc from hrc]; exact hp.1
  have h5 : A.slots + (headSpec ws rm).room.slots ≤ R.slots := by rw [show (headSpec ws rm).room.slots = ms from hrs]; exact hp.2.1
  have hPc : Pc a (A.U.calling g mk a) := hblind _ _ _ _ hp.2.2
  obtain ⟨U, Ls, c0, s0⟩ := A
  dsimp only [Pt.U, Pt.locs, Pt.cells, Pt.slots] at h1 h2 h3 h4 h5 X hn hPc ⊢
  obtain ⟨m9, methY, cY, hn9, hmY, hcY, -, hlY, -⟩ := Cond.codeWith_spec h2
  cases Option.some.inj (hn9.symm.trans hn)
  obtain ⟨kY, hkY, -⟩ := className_of_methodNamed hn
  have hinitY : kY.init = .initialized := Cond.initialized_spec (findClass_of_methodNamed hn) hkY h3
  have h : At U g.method c below := by rw [hg]; exact X.here
  have hlocals9 : W9 + (maxL + 11) + (headSpec ws rm).room.locals ≤ R.locals := hlocals
  have happ : (headSpec ws rm).appliesLoose y e.platform (U.calling g mk a) = true :=
    Spec.appliesLoose_calling (g := g) h hdg hn hkY hinitY
      (X.room_calling (g := g) (R' := (headSpec ws rm).room) hsize hmY hcY hframes (by rw [hlY]; omega) h4 h5) h1
  obtain ⟨mid, hmid⟩ := h.above
  have hfr : (U.setTop g).frames = (.java g :: mid) ++ below := by rw [State.frames_setTop' g h.top, hmid]; rfl
  obtain ⟨o, s₂, hsteps, -, hend, hq⟩ := Steps.callFree hM p X.admits X.cas X.clock (acts := []) hfr happ hPc trivial
  have hq' : vx_Q Qc XC mc ms free a (U.calling g mk a) o s₂ := hq
  rw [State.frames_setTop' g h.top] at hend
  obtain ⟨g₀, hg0⟩ := Option.isSome_iff_exists.mp h.top
  obtain ⟨r, hr⟩ := State.topJava?_eq_some.mp hg0
  have hr' : (({ U with heap := s₂.heap, slotsUsed := s₂.slotsUsed } : State).setVm s₂.vm).frames = .java g₀ :: r := hr
  rcases hq' with ⟨hqc, L, hfe, hL⟩ | ⟨q, rfl, E, ce, L, hx, hce, hcv, hcl, hW₂, hsm, hL⟩
  · obtain ⟨⟨v, rfl⟩, hW₂, e2, q2, q3, q4, q5, q6⟩ := id hfe
    have e3 : s₂ = ({ (U.calling g mk a).setFrames s₂.frames with heap := s₂.heap, slotsUsed := s₂.slotsUsed } : State).setVm s₂.vm := by
      have : s₂ = ({ s₂ with vm := (U.calling g mk a).vm } : State).setVm s₂.vm := rfl
      rw [e2] at this
      exact this
    obtain ⟨c₂, i₂, len₂, hc₂, hd₂, hf₂⟩ := hend
    have hW' : U.WarmedH s₂.vm := hW₂
    have hcc : c₂ = c := by
      have h1 : s₂.code? g.method = U.code? g.method := by
        rw [State.code?_eq, State.code?_eq, hW'.alike.method?]
      exact Option.some.inj (hc₂.symm.trans (h1.trans h.code))
    subst hcc
    have hlen : len₂ = len := by rw [hdg] at hd₂; cases hd₂; rfl
    subst hlen
    have hs₂ : s₂ = (({ U with heap := s₂.heap, slotsUsed := s₂.slotsUsed } : State).setVm s₂.vm).setTop { g with pc := g.pc + len₂, stack := v.toList ++ g.stack } := by
      refine e3.trans ?_
      rw [hf₂, State.calling_eq h.top, State.setFrames_setFrames, State.setTop_of_frames _ hr', hr]
      rfl
    have hsame : U.sameButNew ({ U with heap := s₂.heap, slotsUsed := s₂.slotsUsed } : State) L mc ms := by
      refine ⟨?_, q2, q3, q4, q5, q6⟩
      obtain ⟨t, ht, -⟩ := State.frames_cons hr
      show ({ U with heap := s₂.heap, slotsUsed := s₂.slotsUsed } : State) = { U.setFrames U.frames with heap := s₂.heap, slotsUsed := s₂.slotsUsed }
      rw [State.setFrames_self ht]
    subst hg
    refine Or.inl ⟨v, ⟨(({ U with heap := s₂.heap, slotsUsed := s₂.slotsUsed } : State).setVm s₂.vm), Ls ++ L, c0 + mc, s0 + ms⟩,
      ⟨X.admits, X.cas, X.clock, X.frames, X.room, X.hears, X.method, X.code, (X.here.setHeapUsed s₂.heap s₂.slotsUsed).setVm hW'.alike, X.tail, State.WarmedH.trans X.warmed hW', X.limits, X.bytes, X.same.trans (hsame.setVm s.vm)⟩,
      ⟨g, mk, s₂, L, rfl, rfl, hqc, rfl, hL, rfl, rfl⟩, ?_⟩
    show Steps p.tables e below _ ((({ U with heap := s₂.heap, slotsUsed := s₂.slotsUsed } : State).setVm s₂.vm).setTop { g with pc := g.pc + len₂, stack := v.toList ++ g.stack })
    rw [← hs₂]
    exact hsteps
  · obtain ⟨e2, q2, q3, q4, q5, q6⟩ := id hsm
    have e3 : s₂ = ({ (U.calling g mk a).setFrames s₂.frames with heap := s₂.heap, slotsUsed := s₂.slotsUsed } : State).setVm s₂.vm := by
      have : s₂ = ({ s₂ with vm := (U.calling g mk a).vm } : State).setVm s₂.vm := rfl
      rw [e2] at this
      exact this
    have hf₂ : s₂.frames = .throwing q :: .java g :: U.frames.tail := hend
    have hW' : U.WarmedH s₂.vm := hW₂
    have hs₂ : s₂ = ((({ U with heap := s₂.heap, slotsUsed := s₂.slotsUsed } : State).setVm s₂.vm).setTop g).pushFrame (.throwing q) := by
      refine e3.trans ?_
      rw [hf₂, State.calling_eq h.top, State.setFrames_setFrames, State.pushFrame, State.frames_setTop _ hr', State.setTop_of_frames _ hr', State.setFrames_setFrames, hr]
      rfl
    have hsame : U.sameButNew ({ U with heap := s₂.heap, slotsUsed := s₂.slotsUsed } : State) L mc ms := by
      refine ⟨?_, q2, q3, q4, q5, q6⟩
      obtain ⟨t, ht, -⟩ := State.frames_cons hr
      show ({ U with heap := s₂.heap, slotsUsed := s₂.slotsUsed } : State) = { U.setFrames U.frames with heap := s₂.heap, slotsUsed := s₂.slotsUsed }
      rw [State.setFrames_self ht]
    subst hg
    refine Or.inr ⟨q, ⟨(({ U with heap := s₂.heap, slotsUsed := s₂.slotsUsed } : State).setVm s₂.vm), Ls ++ L, c0 + mc, s0 + ms⟩,
      ⟨X.admits, X.cas, X.clock, X.frames, X.room, X.hears, X.method, X.code, (X.here.setHeapUsed s₂.heap s₂.slotsUsed).setVm hW'.alike, X.tail, State.WarmedH.trans X.warmed hW', X.limits, X.bytes, X.same.trans (hsame.setVm s.vm)⟩,
      ⟨g, mk, s₂, L, E, ce, rfl, rfl, hx, hce, hcv, hcl, rfl, hL, rfl, rfl⟩, ?_⟩
    show Steps p.tables e below _ (((({ U with heap := s₂.heap, slotsUsed := s₂.slotsUsed } : State).setVm s₂.vm).setTop g).pushFrame (.throwing q))
    rw [← hs₂]
    exact hsteps
end
variable {p : Program} {l : Launch} {e : Env} {R : Room} {s : State} {m : MethodId} {args : Array Value} {below : List Frame} {meth : Method} {c : Code} {T : State} {H : Heap} {locs : List Loc} {cells slots : Nat}
theorem vx_callVX (X : Stand p l e R s m args below meth c T locs cells slots) (hexec : p.tables.exec = Jvm.exec) {own C : String} {index : Nat} {y : MethodName} {bytes : ByteArray} {maxL : Nat} {ret : Option FieldType} {hh : List (Nat × Nat × Nat × Nat)}
    (hown : s.vm.findClass own = some m.cls) (hlink : (Cond.methodLink own index y).before args s = true) (hinst : (Cond.instanceMethod y).before args s = true) (hsel : (Cond.selects C y y).before args s = true)
    (hcode : (Cond.codeWith y bytes maxL ret hh).before args s = true) (hy : y.cls ≠ "java/lang/invoke/MethodHandle" ∧ y.cls ≠ "java/lang/invoke/VarHandle")
    {W9 : Nat} {Pre : Pt → Array Value → Prop} {Post : Pt → Array Value → Option Value → Pt → Prop} {PostX : Pt → Array Value → Addr → Pt → Prop} (hK : vx_Back l R p e below s args y 3 W9 Pre Post PostX)
    {b : Addr} {cellB : Cell} (hcell : T.heap[b]? = some cellB) (hobj : cellB.vm.isStatics = false) (hcls : s.vm.findClass C = some cellB.cls)
    {g : JFrame} (hg : g.method = m) (hsize : g.locals.size = c.maxLocals) {argsL rest : List Value} (hlen : ∀ sig, parseMethodDescriptor y.desc = some sig → argsL.length = sig.parameters.length)
    (hstack : g.stack = argsL.reverse ++ .ref b :: rest) (hW : 2 * g.monitorRoom + (rest.map fun v => v.category).sum ≤ W9) (hdg : decode c.code g.pc = .ok (.invokevirtual index, 3))
    (hpre : ∀ vm₁, s.WarmedH vm₁ → Pre ⟨T.setVm vm₁, locs, cells, slots⟩ (Value.ref b :: argsL).toArray) :
    (∃ (v : Option Value) (vm₁ : Vm) (B : Pt), s.WarmedH vm₁ ∧ Stand p l e R s m args below meth c B.U B.locs B.cells B.slots ∧ Post ⟨T.setVm vm₁, locs, cells, slots⟩ (Value.ref b :: argsL).toArray v B ∧
      ∀ target, Steps p.tables e below (B.U.setTop { g with pc := g.pc + 3, stack := v.toList ++ rest }) target → Steps p.tables e below (T.setTop g) target) ∨
    (∃ (q : Addr) (vm₁ : Vm) (B : Pt), s.WarmedH vm₁ ∧ Stand p l e R s m args below meth c B.U B.locs B.cells B.slots ∧ PostX ⟨T.setVm vm₁, locs, cells, slots⟩ (Value.ref b :: argsL).toArray q B ∧
      Steps p.tables e below (T.setTop g) ((B.U.setTop { g with stack := rest }).pushFrame (.throwing q))) := by
  obtain ⟨mk, methM, hnamed, hmethM, hstM, habM⟩ := Cond.instanceMethod_spec hinst
  obtain ⟨m8, methM', cM, hn8, hmethM', -, -, -, -, -, -, hsigM⟩ := Cond.codeWith_spec hcode
  cases Option.some.inj (hn8.symm.trans hnamed)
  cases hmethM.symm.trans hmethM'
  obtain ⟨c2, r2, m2, q1, q2, q3, q4, kP, hkP, hkPi⟩ := Cond.selects_spec hsel
  cases hcls.symm.trans q1
  cases (State.methodFound?_of_named hnamed hy).symm.trans q2
  cases hnamed.symm.trans q3
  have hselP : selectMethod e.platform s.vm cellB.cls mk = .method mk := by rw [Launch.admits_selectMethod X.admits]; exact q4
  obtain ⟨vm₁, X₁, hstep₁⟩ := X.invokevirtual hexec hown hlink hnamed hmethM hstM hkP hkPi hy (a := b) (cell := cellB) hcell
    (fun z h => by rw [h] at hobj; cases hobj) hselP hmethM habM hkP hkPi (g := g) hg (argsL := argsL) (rest := rest) (hlen _ hsigM) hstack hdg
  rcases hK m meth c ⟨T.setVm vm₁, locs, cells, slots⟩ { g with stack := rest } (.invokevirtual index) mk (Value.ref b :: argsL).toArray X₁ hg hsize hdg hW (X₁.named hnamed) (hpre vm₁ X₁.warmed) with ⟨v, B, X', hpost, hsteps⟩ | ⟨q, B, X', hpost, hsteps⟩
  · exact Or.inl ⟨v, vm₁, B, X₁.warmed, X', hpost, fun target h => hstep₁ _ fun acts => by rw [doInvoke_state]; exact hsteps.trans h⟩
  · exact Or.inr ⟨q, vm₁, B, X₁.warmed, X', hpost, hstep₁ _ fun acts => by rw [doInvoke_state]; exact hsteps⟩
theorem vx_callSX (X : Stand p l e R s m args below meth c T locs cells slots) (hexec : p.tables.exec = Jvm.exec) {own : String} {index : Nat} {y : MethodName} {bytes : ByteArray} {maxL : Nat} {ret : Option FieldType} {hh : List (Nat × Nat × Nat × Nat)}
    (hown : s.vm.findClass own = some m.cls) (hlink : (Cond.methodLink own index y).before args s = true) (hstat : (Cond.static y).before args s = true) (hinit : (Cond.initialized y.cls).before args s = true)
    (hcode : (Cond.codeWith y bytes maxL ret hh).before args s = true) (hy : y.cls ≠ "java/lang/invoke/MethodHandle" ∧ y.cls ≠ "java/lang/invoke/VarHandle")
    {W9 : Nat} {Pre : Pt → Array Value → Prop} {Post : Pt → Array Value → Option Value → Pt → Prop} {PostX : Pt → Array Value → Addr → Pt → Prop} (hK : vx_Back l R p e below s args y 3 W9 Pre Post PostX)
    {g : JFrame} (hg : g.method = m) (hsize : g.locals.size = c.maxLocals) {argsL rest : List Value} (hlen : ∀ sig, parseMethodDescriptor y.desc = some sig → argsL.length = sig.parameters.length)
    (hstack : g.stack = argsL.reverse ++ rest) (hW : 2 * g.monitorRoom + (rest.map fun v => v.category).sum ≤ W9) (hdg : decode c.code g.pc = .ok (.invokestatic index, 3))
    (hpre : ∀ vm₁, s.WarmedH vm₁ → Pre ⟨T.setVm vm₁, locs, cells, slots⟩ argsL.toArray) :
    (∃ (v : Option Value) (vm₁ : Vm) (B : Pt), s.WarmedH vm₁ ∧ Stand p l e R s m args below meth c B.U B.locs B.cells B.slots ∧ Post ⟨T.setVm vm₁, locs, cells, slots⟩ argsL.toArray v B ∧
      ∀ target, Steps p.tables e below (B.U.setTop { g with pc := g.pc + 3, stack := v.toList ++ rest }) target → Steps p.tables e below (T.setTop g) target) ∨
    (∃ (q : Addr) (vm₁ : Vm) (B : Pt), s.WarmedH vm₁ ∧ Stand p l e R s m args below meth c B.U B.locs B.cells B.slots ∧ PostX ⟨T.setVm vm₁, locs, cells, slots⟩ argsL.toArray q B ∧
      Steps p.tables e below (T.setTop g) ((B.U.setTop { g with stack := rest }).pushFrame (.throwing q))) := by
  obtain ⟨mk, methM, cM, hnamed, hmethM, -, -, -, -, -, -, hsigM⟩ := Cond.codeWith_spec hcode
  have hstatic : methM.isStatic = true := Cond.static_spec hnamed hmethM hstat
  obtain ⟨kP, hkP, -⟩ := className_of_methodNamed hnamed
  have hinitP : kP.init = .initialized := Cond.initialized_spec (findClass_of_methodNamed hnamed) hkP hinit
  obtain ⟨vm₁, X₁, hstep₁⟩ := X.invokestatic hexec hown hlink hnamed hmethM hstatic hkP hinitP hy (g := g) hg (argsL := argsL) (rest := rest) (hlen _ hsigM) hstack hdg
  rcases hK m meth c ⟨T.setVm vm₁, locs, cells, slots⟩ { g with stack := rest } (.invokestatic index) mk argsL.toArray X₁ hg hsize hdg hW (X₁.named hnamed) (hpre vm₁ X₁.warmed) with ⟨v, B, X', hpost, hsteps⟩ | ⟨q, B, X', hpost, hsteps⟩
  · exact Or.inl ⟨v, vm₁, B, X₁.warmed, X', hpost, fun target h => hstep₁ _ fun acts => by rw [doInvoke_state]; exact hsteps.trans h⟩
  · exact Or.inr ⟨q, vm₁, B, X₁.warmed, X', hpost, hstep₁ _ fun acts => by rw [doInvoke_state]; exact hsteps⟩
theorem vx_callVW (X : Stand p l e R s m args below meth c T locs cells slots) (hexec : p.tables.exec = Jvm.exec) {own C : String} {index : Nat} {y : MethodName} {bytes : ByteArray} {maxL : Nat} {ret : Option FieldType} {hh : List (Nat × Nat × Nat × Nat)}
    (hown : s.vm.findClass own = some m.cls) (hlink : (Cond.methodLink own index y).before args s = true) (hinst : (Cond.instanceMethod y).before args s = true) (hsel : (Cond.selects C y y).before args s = true)
    (hcode : (Cond.codeWith y bytes maxL ret hh).before args s = true) (hy : y.cls ≠ "java/lang/invoke/MethodHandle" ∧ y.cls ≠ "java/lang/invoke/VarHandle")
    {W9 : Nat} {Pre : Pt → Array Value → Prop} {Post : Pt → Array Value → Option Value → Pt → Prop} (hK : Back l R p e below s args y 3 W9 Pre Post)
    {b : Addr} {cellB : Cell} (hcell : T.heap[b]? = some cellB) (hobj : cellB.vm.isStatics = false) (hcls : s.vm.findClass C = some cellB.cls)
    {g : JFrame} (hg : g.method = m) (hsize : g.locals.size = c.maxLocals) {argsL rest : List Value} (hlen : ∀ sig, parseMethodDescriptor y.desc = some sig → argsL.length = sig.parameters.length)
    (hstack : g.stack = argsL.reverse ++ .ref b :: rest) (hW : 2 * g.monitorRoom + (rest.map fun v => v.category).sum ≤ W9) (hdg : decode c.code g.pc = .ok (.invokevirtual index, 3))
    (hpre : ∀ vm₁, s.WarmedH vm₁ → Pre ⟨T.setVm vm₁, locs, cells, slots⟩ (Value.ref b :: argsL).toArray) :
    ∃ (v : Option Value) (vm₁ : Vm) (B : Pt), s.WarmedH vm₁ ∧ Stand p l e R s m args below meth c B.U B.locs B.cells B.slots ∧ Post ⟨T.setVm vm₁, locs, cells, slots⟩ (Value.ref b :: argsL).toArray v B ∧
      ∀ target, Steps p.tables e below (B.U.setTop { g with pc := g.pc + 3, stack := v.toList ++ rest }) target → Steps p.tables e below (T.setTop g) target := by
  obtain ⟨mk, methM, hnamed, hmethM, hstM, habM⟩ := Cond.instanceMethod_spec hinst
  obtain ⟨m8, methM', cM, hn8, hmethM', -, -, -, -, -, -, hsigM⟩ := Cond.codeWith_spec hcode
  cases Option.some.inj (hn8.symm.trans hnamed)
  cases hmethM.symm.trans hmethM'
  obtain ⟨c2, r2, m2, q1, q2, q3, q4, kP, hkP, hkPi⟩ := Cond.selects_spec hsel
  cases hcls.symm.trans q1
  cases (State.methodFound?_of_named hnamed hy).symm.trans q2
  cases hnamed.symm.trans q3
  have hselP : selectMethod e.platform s.vm cellB.cls mk = .method mk := by rw [Launch.admits_selectMethod X.admits]; exact q4
  obtain ⟨vm₁, X₁, hstep₁⟩ := X.invokevirtual hexec hown hlink hnamed hmethM hstM hkP hkPi hy (a := b) (cell := cellB) hcell
    (fun z h => by rw [h] at hobj; cases hobj) hselP hmethM habM hkP hkPi (g := g) hg (argsL := argsL) (rest := rest) (hlen _ hsigM) hstack hdg
  obtain ⟨v, B, X', hpost, hsteps⟩ := hK m meth c ⟨T.setVm vm₁, locs, cells, slots⟩ { g with stack := rest } (.invokevirtual index) mk (Value.ref b :: argsL).toArray X₁ hg hsize hdg hW (X₁.named hnamed) (hpre vm₁ X₁.warmed)
  exact ⟨v, vm₁, B, X₁.warmed, X', hpost, fun target h => hstep₁ _ fun acts => by rw [doInvoke_state]; exact hsteps.trans h⟩
abbrev vx_CVW (R : Room) (s : State) (args : Array Value) (own C : String) (index : Nat) (y : MethodName) (bytes : ByteArray) (maxL : Nat) (ret : Option FieldType) (hh : List (Nat × Nat × Nat × Nat)) (ws : List Cond) (rm : Room) (mc ms n : Nat) : Prop :=
  (rm.cells = mc ∧ rm.slots = ms ∧ rm.frames + 1 ≤ R.frames ∧ 8 + (maxL + 11) + rm.locals ≤ R.locals ∧ (∀ w ∈ ws, ∀ (a' : Array Value) (U : State), s.WarmedH U.vm → w.before a' U = true) ∧ Cond.codeWith y bytes maxL ret hh ∈ ws) ∧
  (Cond.codeWith y bytes maxL ret hh).before args s = true ∧ (Cond.initialized y.cls).before args s = true ∧ (y.cls ≠ "java/lang/invoke/MethodHandle" ∧ y.cls ≠ "java/lang/invoke/VarHandle") ∧
  (∀ sig, parseMethodDescriptor y.desc = some sig → n = sig.parameters.length) ∧ (Cond.methodLink own index y).before args s = true ∧ (Cond.instanceMethod y).before args s = true ∧ (Cond.selects C y y).before args s = true
theorem vx_cwVW {own C : String} {index maxL mc ms : Nat} {y : MethodName} {bytes : ByteArray} {ret : Option FieldType} {hh : List (Nat × Nat × Nat × Nat)} {Ts ws ws' : List Cond} {rm : Room} (n : Nat) (ht : ∀ w ∈ Ts, w.before args s = true) (hT : GoodIn Ts (wsV own index C y ws)) (hw : ws = Cond.codeWith y bytes maxL ret hh :: ws') (hrc : rm.cells = mc) (hrs : rm.slots = ms)
    (hd : y.cls = C ∧ y.cls ≠ "java/lang/invoke/MethodHandle" ∧ y.cls ≠ "java/lang/invoke/VarHandle" ∧ (parseMethodDescriptor y.desc).map (fun d => d.parameters.length) = some n) (hR : rm.frames + 1 ≤ R.frames ∧ 8 + (maxL + 11) + rm.locals ≤ R.locals) :
    vx_CVW R s args own C index y bytes maxL ret hh ws rm mc ms n := by
  obtain ⟨hC, hd⟩ := hd
  subst hC
  have ok : ∀ w ∈ wsV own index y.cls y ws, w.before args s = true := fun w h => ht w (hT w h).1
  have hG : GoodIn Ts ws := fun w h => hT w (by unfold wsV; exact List.mem_append_right _ h)
  have hc : Cond.codeWith y bytes maxL ret hh ∈ ws := by rw [hw]; exact List.mem_cons_self
  refine ⟨⟨hrc, hrs, hR.1, hR.2, pay_in ht hG, hc⟩, ht _ (hG _ hc).1, ok _ (by simp [wsV]), ⟨hd.1, hd.2.1⟩, fun sig h => ?_, ok _ (by simp [wsV]), ok _ (by simp [wsV]), ok _ (by simp [wsV])⟩
  have h2 := hd.2.2
  rw [h] at h2
  exact (Option.some.inj h2).symm
theorem vx_runVW {y : MethodName} {bytes cc : ByteArray} {maxL nL mc ms n index : Nat} {ret : Option FieldType} {hh : List (Nat × Nat × Nat × Nat)} {ws : List Cond} {rm : Room} {Pc : Array Value → State → Prop} {Qc : Array Value → State → Outcome → State → Prop} {free : Addr → Prop} {Ts : List Cond} {own C : String} {b : Addr} {As rest : List Value} {g : JFrame}
    (S : CallFix p m c cc nL s args Ts own) (hM : Met l y ws rm Pc Qc mc ms free) (cw : vx_CVW R s args own C index y bytes maxL ret hh ws rm mc ms n) (hp : PreV s H C b Pc As)
    (hg : g.method = m) (hn : As.length = n) (hsize : g.locals.size = nL) (hstack : g.stack = As.reverse ++ .ref b :: rest) (hW : 2 * g.monitorRoom + (rest.map fun v => v.category).sum ≤ 8) (hdg : decode cc g.pc = .ok (.invokevirtual index, 3)) (hf : cells + mc ≤ R.cells ∧ slots + ms ≤ R.slots) :
    va_Run p l e R s m args below meth c H locs cells slots mc ms g rest (Qc (Value.ref b :: As).toArray) free := by
  obtain ⟨⟨hrc, hrs, hfr, hlo, hws, hcw⟩, hcode, hini, hy, hlen, hl, hin, hse⟩ := cw
  have hK : Back l R p e below s args y 3 8 (PreOf R mc ms Pc) (PostOf Qc mc ms free) := va_backW (hh := hh) (bytes := bytes) (maxL := maxL) (ret := ret) hM hp.1 hrc hrs hfr hlo hws hcw (fun a' U hW => word_at hW (Or.inl (by first | rfl | simp [Cond.onTables, Cond.keeps, Cond.steady])) hini)
  obtain ⟨hx, hb, hml, ho, -⟩ := S
  obtain ⟨-, ⟨cellB, hcB, hoB, hclB⟩, hPc⟩ := hp
  intro T hT X
  obtain ⟨v, vm₁, ⟨U', l2, c2, s2⟩, hW₁, X', ⟨g', mk, t, L, e1, e2, hq, h1, hL, h2, h3⟩, st⟩ := vx_callVW X hx (C := C) (hh := hh) (bytes := bytes) (maxL := maxL) (ret := ret) ho hl hin hse hcode hy hK (by rw [hT]; exact hcB) hoB hclB hg (hsize.trans hml.symm) (argsL := As) (rest := rest) (fun sig h => hn.trans (hlen sig h)) hstack hW (by rw [hb]; exact hdg)
    (fun vm₁ hW₁ => ⟨hf.1, hf.2, hPc (T.setVm vm₁) hT hW₁⟩)
  dsimp only [Pt.U, Pt.locs, Pt.cells, Pt.slots] at X' e1 e2 h1 h2 h3 st
  subst h1; subst h2; subst h3
  exact ⟨v, (T.setVm vm₁).calling g' mk (Value.ref b :: As).toArray, t, U', L, hT, X', hL, e1, e2, hq, st⟩
section
variable {y : MethodName} {bytes cc : ByteArray} {maxL nL mc ms n index : Nat} {ret : Option FieldType} {ws : List Cond} {rm : Room} {Pc : Array Value → State → Prop} {Qc : Array Value → State → Outcome → State → Prop} {XC : String → State → State → Prop} {free : Addr → Prop} {Ts : List Cond} {own C : String} {b : Addr} {As rest : List Value} {g : JFrame}
theorem vx_runVX {hh : List (Nat × Nat × Nat × Nat)} (S : CallFix p m c cc nL s args Ts own) (hM : vx_Met l y ws rm Pc Qc XC mc ms free) (cw : vx_CVW R s args own C index y bytes maxL ret hh ws rm mc ms n) (hp : PreV s H C b Pc As)
    (hg : g.method = m) (hn : As.length = n) (hsize : g.locals.size = nL) (hstack : g.stack = As.reverse ++ .ref b :: rest) (hW : 2 * g.monitorRoom + (rest.map fun v => v.category).sum ≤ 8) (hdg : decode cc g.pc = .ok (.invokevirtual index, 3)) (hf : cells + mc ≤ R.cells ∧ slots + ms ≤ R.slots) :
    vx_Run p l e R s m args below meth c H locs cells slots mc ms g rest (Qc (Value.ref b :: As).toArray) XC free := by
  obtain ⟨⟨hrc, hrs, hfr, hlo, hws, hcw⟩, hcode, hini, hy, hlen, hl, hin, hse⟩ := cw
  have hK : vx_Back l R p e below s args y 3 8 (PreOf R mc ms Pc) (PostOf Qc mc ms free) (vx_Post XC mc ms free) := vx_backW (hh := hh) (bytes := bytes) (maxL := maxL) (ret := ret) hM hp.1 hrc hrs hfr hlo hws hcw (fun a' U hW => word_at hW (Or.inl (by first | rfl | simp [Cond.onTables, Cond.keeps, Cond.steady])) hini)
  obtain ⟨hx, hb, hml, ho, -⟩ := S
  obtain ⟨-, ⟨cellB, hcB, hoB, hclB⟩, hPc⟩ := hp
  intro T hT X
  rcases vx_callVX X hx (C := C) (hh := hh) (bytes := bytes) (maxL := maxL) (ret := ret) ho hl hin hse hcode hy hK (by rw [hT]; exact hcB) hoB hclB hg (hsize.trans hml.symm) (argsL := As) (rest := rest) (fun sig h => hn.trans (hlen sig h)) hstack hW (by rw [hb]; exact hdg)
    (fun vm₁ hW₁ => ⟨hf.1, hf.2, hPc (T.setVm vm₁) hT hW₁⟩) with ⟨v, vm₁, ⟨U', l2, c2, s2⟩, hW₁, X', ⟨g', mk, t, L, e1, e2, hq, h1, hL, h2, h3⟩, st⟩ | ⟨q, vm₁, ⟨U', l2, c2, s2⟩, hW₁, X', ⟨g', mk, t, L, E, ce, e1, e2, hq, hce, hcv, hcl, h1, hL, h2, h3⟩, st⟩
  · dsimp only [Pt.U, Pt.locs, Pt.cells, Pt.slots] at X' e1 e2 h1 h2 h3 st
    subst h1; subst h2; subst h3
    exact Or.inl ⟨v, (T.setVm vm₁).calling g' mk (Value.ref b :: As).toArray, t, U', L, hT, X', hL, e1, e2, hq, st⟩
  · dsimp only [Pt.U, Pt.locs, Pt.cells, Pt.slots] at X' e1 e2 h1 h2 h3 st hcl
    subst h1; subst h2; subst h3
    exact Or.inr ⟨q, (T.setVm vm₁).calling g' mk (Value.ref b :: As).toArray, t, U', L, E, ce, hT, X', hL, e1, e2, hq, hce, hcv, vx_cls hW₁ hcl, st⟩
theorem vx_runSX {hh : List (Nat × Nat × Nat × Nat)} (S : CallFix p m c cc nL s args Ts own) (hM : vx_Met l y ws rm Pc Qc XC mc ms free) (cw : vx_CSW R s args own index y bytes maxL ret hh ws rm mc ms n) (hp : PreS s H Pc As)
    (hg : g.method = m) (hn : As.length = n) (hsize : g.locals.size = nL) (hstack : g.stack = As.reverse ++ rest) (hW : 2 * g.monitorRoom + (rest.map fun v => v.category).sum ≤ 8) (hdg : decode cc g.pc = .ok (.invokestatic index, 3)) (hf : cells + mc ≤ R.cells ∧ slots + ms ≤ R.slots) :
    vx_Run p l e R s m args below meth c H locs cells slots mc ms g rest (Qc As.toArray) XC free := by
  obtain ⟨⟨hrc, hrs, hfr, hlo, hws, hcw⟩, hcode, hini, hy, hlen, hl, hstt⟩ := cw
  have hK : vx_Back l R p e below s args y 3 8 (PreOf R mc ms Pc) (PostOf Qc mc ms free) (vx_Post XC mc ms free) := vx_backW (hh := hh) (bytes := bytes) (maxL := maxL) (ret := ret) hM hp.1 hrc hrs hfr hlo hws hcw (fun a' U hW => word_at hW (Or.inl (by first | rfl | simp [Cond.onTables, Cond.keeps, Cond.steady])) hini)
  obtain ⟨hx, hb, hml, ho, -⟩ := S
  intro T hT X
  rcases vx_callSX X hx (hh := hh) (bytes := bytes) (maxL := maxL) (ret := ret) ho hl hstt hini hcode hy hK hg (hsize.trans hml.symm) (argsL := As) (rest := rest) (fun sig h => hn.trans (hlen sig h)) hstack hW (by rw [hb]; exact hdg)
    (fun vm₁ hW₁ => ⟨hf.1, hf.2, hp.2 (T.setVm vm₁) hT hW₁⟩) with ⟨v, vm₁, ⟨U', l2, c2, s2⟩, hW₁, X', ⟨g', mk, t, L, e1, e2, hq, h1, hL, h2, h3⟩, st⟩ | ⟨q, vm₁, ⟨U', l2, c2, s2⟩, hW₁, X', ⟨g', mk, t, L, E, ce, e1, e2, hq, hce, hcv, hcl, h1, hL, h2, h3⟩, st⟩
  · dsimp only [Pt.U, Pt.locs, Pt.cells, Pt.slots] at X' e1 e2 h1 h2 h3 st
    subst h1; subst h2; subst h3
    exact Or.inl ⟨v, (T.setVm vm₁).calling g' mk As.toArray, t, U', L, hT, X', hL, e1, e2, hq, st⟩
  · dsimp only [Pt.U, Pt.locs, Pt.cells, Pt.slots] at X' e1 e2 h1 h2 h3 st hcl
    subst h1; subst h2; subst h3
    exact Or.inr ⟨q, (T.setVm vm₁).calling g' mk As.toArray, t, U', L, E, ce, hT, X', hL, e1, e2, hq, hce, hcv, vx_cls hW₁ hcl, st⟩
end
end VXH
theorem vx_ofWH {l : Launch} {y : MethodName} {ws ws' : List Cond} {rm : Room} {Pc : Array Value → State → Prop} {Qc : Array Value → State → Outcome → State → Prop} {XC : String → State → State → Prop} {mc ms : Nat} {free : Addr → Prop} {cc : ByteArray} {maxL : Nat} {ret : Option FieldType} {hh : List (Nat × Nat × Nat × Nat)}
    (hy : plainName y.cls = true) (hw : ws = Cond.codeWith y cc maxL ret hh :: ws')
    (body : ∀ p e s m args below meth c s₁, BodyLoose p l y (headSpec ws rm) cc maxL ret e s m args below meth c s₁ → c.maxLocals = maxL → Pc args s →
      W p l e (headSpec ws rm).room s m args below meth c s.heap [] 0 0 (vx_MQ below Qc XC args s mc ms free) (entryFrame m args maxL)) : vx_Met l y ws rm Pc Qc XC mc ms free := by
  refine MetFree.of_bodyS (code := cc) (maxLocals := maxL) (ret := ret) hy ?_ ?_
  · intro args s m h hn
    obtain ⟨m9, meth, c, hn9, h1, h2, h3, h4, -, h5, h6, -⟩ := Cond.codeWith_spec (atoms_spec (ws := ws) h _ (by rw [hw]; exact List.mem_cons_self))
    cases hn.symm.trans hn9
    exact ⟨meth, c, h1, h2, h3, h4, h5, h6⟩
  · intro p e s m args below meth c s₁ B hml hP _
    have hh0 : s₁.heap = s.heap := by rw [B.state]; rfl
    obtain ⟨t, a1, o, b1, b2, b3⟩ := body p e s m args below meth c s₁ B hml hP s₁ hh0 (Stand.of_body B)
    exact ⟨t, o, a1, b1, b2, b3⟩
/-! ===== END ===== -/
end
section
abbrev R_X : String := "LitreFractions"
abbrev R_T : String := "LitreFractions$Table"
abbrev R_M : String := "LitreFractionsModel"
abbrev R_L : String := "LitreFractionsLaw"
abbrev R_JM : String := "java/lang/Math"
abbrev R_JL : String := "java/lang/Long"
def F_T : u_T := fun k => match k with
  | 0 => ("LitreFractions$Table", "xs", "[J", true)
  | 1 => ("LitreFractions$Table", "ys", "[J", true)
  | 2 => ("LitreFractions$Table", "below", "J", false)
  | _ => ("LitreFractions$Table", "count", "I", false)
def tt_T : Nat → FieldType := fun k => match k with
  | 0 => .array .long
  | 1 => .array .long
  | 2 => .long
  | _ => .int
theorem nn_T : ∀ a, a < 4 → ∀ b, b < 4 → a ≠ b → (F_T a).2.1 ≠ (F_T b).2.1 := by decide +kernel
theorem tt_T_ok : ∀ k, k < 4 → parseFieldDescriptor (F_T k).2.2.1 = some (tt_T k) := by decide +kernel
def F_X : u_T := fun k => match k with
  | 0 => ("LitreFractions", "aboves", "[J", true)
  | 1 => ("LitreFractions", "belows", "[J", true)
  | 2 => ("LitreFractions", "units", "[I", true)
  | 3 => ("LitreFractions", "amountCount", "I", false)
  | 4 => ("LitreFractions", "weights", "[J", true)
  | 5 => ("LitreFractions", "weightCount", "I", false)
  | _ => ("LitreFractions", "tables", "[LLitreFractions$Table;", true)
def tt_X : Nat → FieldType := fun k => match k with
  | 0 => .array .long
  | 1 => .array .long
  | 2 => .array .int
  | 3 => .int
  | 4 => .array .long
  | 5 => .int
  | _ => .array (.object "LitreFractions$Table")
theorem nn_X : ∀ a, a < 7 → ∀ b, b < 7 → a ≠ b → (F_X a).2.1 ≠ (F_X b).2.1 := by decide +kernel
theorem tt_X_ok : ∀ k, k < 7 → parseFieldDescriptor (F_X k).2.2.1 = some (tt_X k) := by decide +kernel
def F_M : u_T := fun k => match k with
  | 0 => ("LitreFractionsModel", "code", "I", false)
  | 1 => ("LitreFractionsModel", "amounts", "I", false)
  | 2 => ("LitreFractionsModel", "up", "[J", true)
  | 3 => ("LitreFractionsModel", "down", "[J", true)
  | 4 => ("LitreFractionsModel", "units", "[I", true)
  | 5 => ("LitreFractionsModel", "rows", "[I", true)
  | 6 => ("LitreFractionsModel", "xs", "[J", true)
  | 7 => ("LitreFractionsModel", "ys", "[J", true)
  | 8 => ("LitreFractionsModel", "belows", "[J", true)
  | 9 => ("LitreFractionsModel", "weights", "I", false)
  | _ => ("LitreFractionsModel", "weight", "[J", true)
def tt_M : Nat → FieldType := fun k => match k with
  | 0 => .int
  | 1 => .int
  | 2 => .array .long
  | 3 => .array .long
  | 4 => .array .int
  | 5 => .array .int
  | 6 => .array .long
  | 7 => .array .long
  | 8 => .array .long
  | 9 => .int
  | _ => .array .long
theorem nn_M : ∀ a, a < 11 → ∀ b, b < 11 → a ≠ b → (F_M a).2.1 ≠ (F_M b).2.1 := by decide +kernel
theorem tt_M_ok : ∀ k, k < 11 → parseFieldDescriptor (F_M k).2.2.1 = some (tt_M k) := by decide +kernel
abbrev classes : List vw_C := [(R_T, F_T, 4), (R_X, F_X, 7), (R_M, F_M, 11)]
/-- the words of the tables that stay as they are, whatever is warmed -/
def WG : List Cond := lw_tbl.filter goodWord
theorem WG_ok : GoodIn lw_tbl WG := fun w h => ⟨(List.mem_filter.mp h).1, good_of_word (List.mem_filter.mp h).2⟩
theorem WG_at {w : Cond} (i : Nat) (h : lw_tbl[i]? = some w) (hg : goodWord w = true) : w ∈ WG := List.mem_filter.mpr ⟨List.mem_of_getElem? h, hg⟩
theorem wg_0 : (Cond.selects "LitreFractions" ({ cls := "LitreFractions", name := "isAmount", desc := "(I)Z" } : Jvm.MethodName) ({ cls := "LitreFractions", name := "isAmount", desc := "(I)Z" } : Jvm.MethodName)) ∈ WG := WG_at 0 rfl rfl
theorem wg_1 : (Cond.selects "LitreFractions" ({ cls := "LitreFractions", name := "keep", desc := "(JJI)I" } : Jvm.MethodName) ({ cls := "LitreFractions", name := "keep", desc := "(JJI)I" } : Jvm.MethodName)) ∈ WG := WG_at 1 rfl rfl
theorem wg_2 : (Cond.selects "LitreFractions" ({ cls := "LitreFractions", name := "tableAt", desc := "(I)LLitreFractions$Table;" } : Jvm.MethodName) ({ cls := "LitreFractions", name := "tableAt", desc := "(I)LLitreFractions$Table;" } : Jvm.MethodName)) ∈ WG := WG_at 2 rfl rfl
theorem wg_3 : (Cond.selects "LitreFractions$Table" ({ cls := "LitreFractions$Table", name := "takes", desc := "(JJJ)Z" } : Jvm.MethodName) ({ cls := "LitreFractions$Table", name := "takes", desc := "(JJJ)Z" } : Jvm.MethodName)) ∈ WG := WG_at 3 rfl rfl
theorem wg_4 : (Cond.selects "LitreFractions$Table" ({ cls := "LitreFractions$Table", name := "append", desc := "(JJJ)V" } : Jvm.MethodName) ({ cls := "LitreFractions$Table", name := "append", desc := "(JJJ)V" } : Jvm.MethodName)) ∈ WG := WG_at 4 rfl rfl
theorem wg_5 : (Cond.selects "LitreFractions$Table" ({ cls := "LitreFractions$Table", name := "firstNotBefore", desc := "(JJ)I" } : Jvm.MethodName) ({ cls := "LitreFractions$Table", name := "firstNotBefore", desc := "(JJ)I" } : Jvm.MethodName)) ∈ WG := WG_at 5 rfl rfl
theorem wg_6 : (Cond.selects "LitreFractions" ({ cls := "LitreFractions", name := "keepBetween", desc := "(LLitreFractions$Table;II)I" } : Jvm.MethodName) ({ cls := "LitreFractions", name := "keepBetween", desc := "(LLitreFractions$Table;II)I" } : Jvm.MethodName)) ∈ WG := WG_at 6 rfl rfl
theorem wg_7 : (Cond.selects "LitreFractions" ({ cls := "LitreFractions", name := "sumOfWeights", desc := "()J" } : Jvm.MethodName) ({ cls := "LitreFractions", name := "sumOfWeights", desc := "()J" } : Jvm.MethodName)) ∈ WG := WG_at 7 rfl rfl
theorem wg_8 : (Cond.selects "LitreFractions" ({ cls := "LitreFractions", name := "thousandthsOf", desc := "(IJJ)J" } : Jvm.MethodName) ({ cls := "LitreFractions", name := "thousandthsOf", desc := "(IJJ)J" } : Jvm.MethodName)) ∈ WG := WG_at 8 rfl rfl
theorem wg_9 : (Cond.selects "java/lang/Throwable" ({ cls := "java/lang/Throwable", name := "fillInStackTrace", desc := "(I)Ljava/lang/Throwable;" } : Jvm.MethodName) ({ cls := "java/lang/Throwable", name := "fillInStackTrace", desc := "(I)Ljava/lang/Throwable;" } : Jvm.MethodName)) ∈ WG := WG_at 9 rfl rfl
theorem wg_10 : (Cond.selects "LitreFractionsModel" ({ cls := "LitreFractionsModel", name := "make", desc := "(JJI)I" } : Jvm.MethodName) ({ cls := "LitreFractionsModel", name := "make", desc := "(JJI)I" } : Jvm.MethodName)) ∈ WG := WG_at 10 rfl rfl
theorem wg_11 : (Cond.selects "LitreFractionsModel" ({ cls := "LitreFractionsModel", name := "isAmount", desc := "(I)Z" } : Jvm.MethodName) ({ cls := "LitreFractionsModel", name := "isAmount", desc := "(I)Z" } : Jvm.MethodName)) ∈ WG := WG_at 11 rfl rfl
theorem wg_12 : (Cond.initialized "LitreFractionsLaw") ∈ WG := WG_at 12 rfl rfl
theorem wg_13 : (Cond.initialized "LitreFractions") ∈ WG := WG_at 13 rfl rfl
theorem wg_14 : (Cond.initialized "LitreFractions$Table") ∈ WG := WG_at 14 rfl rfl
theorem wg_15 : (Cond.initialized "LitreFractionsModel") ∈ WG := WG_at 15 rfl rfl
theorem wg_16 : (Cond.initialized "java/lang/Throwable") ∈ WG := WG_at 16 rfl rfl
theorem wg_17 : (Cond.initialized "java/lang/Exception") ∈ WG := WG_at 17 rfl rfl
theorem wg_18 : (Cond.initialized "java/lang/RuntimeException") ∈ WG := WG_at 18 rfl rfl
theorem wg_19 : (Cond.initialized "java/lang/ArithmeticException") ∈ WG := WG_at 19 rfl rfl
theorem wg_20 : (Cond.initialized "java/lang/Math") ∈ WG := WG_at 20 rfl rfl
theorem wg_21 : (Cond.initialized "java/lang/Long") ∈ WG := WG_at 21 rfl rfl
theorem wg_22 : (Cond.initialized "java/lang/IndexOutOfBoundsException") ∈ WG := WG_at 22 rfl rfl
theorem wg_23 : (Cond.classLink "LitreFractionsLaw" (8 : Nat) "LitreFractions") ∈ WG := WG_at 23 rfl rfl
theorem wg_24 : (Cond.instantiable "LitreFractions" (7 : Nat)) ∈ WG := WG_at 24 rfl rfl
theorem wg_25 : (Cond.methodLink "LitreFractionsLaw" (25 : Nat) ({ cls := "LitreFractions", name := "<init>", desc := "()V" } : Jvm.MethodName)) ∈ WG := WG_at 25 rfl rfl
theorem wg_26 : (Cond.instanceMethod ({ cls := "LitreFractions", name := "<init>", desc := "()V" } : Jvm.MethodName)) ∈ WG := WG_at 26 rfl rfl
theorem wg_27 : (Cond.code ({ cls := "LitreFractions", name := "<init>", desc := "()V" } : Jvm.MethodName) prog_1_method_1_code (2 : Nat) (Option.none : Option Jvm.ClassFile.FieldType)) ∈ WG := WG_at 27 rfl rfl
theorem wg_28 : (Cond.methodLink "LitreFractions" (1 : Nat) ({ cls := "java/lang/Object", name := "<init>", desc := "()V" } : Jvm.MethodName)) ∈ WG := WG_at 28 rfl rfl
theorem wg_29 : (Cond.instanceMethod ({ cls := "java/lang/Object", name := "<init>", desc := "()V" } : Jvm.MethodName)) ∈ WG := WG_at 29 rfl rfl
theorem wg_30 : (Cond.code ({ cls := "java/lang/Object", name := "<init>", desc := "()V" } : Jvm.MethodName) object_method_1_code (1 : Nat) (Option.none : Option Jvm.ClassFile.FieldType)) ∈ WG := WG_at 30 rfl rfl
theorem wg_31 : (Cond.classLink "LitreFractions" (23 : Nat) "LitreFractions$Table") ∈ WG := WG_at 31 rfl rfl
theorem wg_32 : (Cond.instantiable "LitreFractions$Table" (4 : Nat)) ∈ WG := WG_at 33 rfl rfl
theorem wg_33 : (Cond.instanceMethod ({ cls := "LitreFractions$Table", name := "<init>", desc := "()V" } : Jvm.MethodName)) ∈ WG := WG_at 35 rfl rfl
theorem wg_34 : (Cond.code ({ cls := "LitreFractions$Table", name := "<init>", desc := "()V" } : Jvm.MethodName) prog_2_method_1_code (1 : Nat) (Option.none : Option Jvm.ClassFile.FieldType)) ∈ WG := WG_at 36 rfl rfl
theorem wg_35 : (Cond.methodLink "LitreFractions$Table" (3 : Nat) ({ cls := "java/lang/Object", name := "<init>", desc := "()V" } : Jvm.MethodName)) ∈ WG := WG_at 37 rfl rfl
theorem wg_36 : (Cond.fieldLink "LitreFractions$Table" (9 : Nat) "LitreFractions$Table" "xs" "[J") ∈ WG := WG_at 38 rfl rfl
theorem wg_37 : (Cond.fieldLink "LitreFractions$Table" (15 : Nat) "LitreFractions$Table" "ys" "[J") ∈ WG := WG_at 40 rfl rfl
theorem wg_38 : (Cond.fieldLink "LitreFractions$Table" (28 : Nat) "LitreFractions$Table" "below" "J") ∈ WG := WG_at 42 rfl rfl
theorem wg_39 : (Cond.fieldLink "LitreFractions$Table" (18 : Nat) "LitreFractions$Table" "count" "I") ∈ WG := WG_at 44 rfl rfl
theorem wg_40 : (Cond.laysFinal "LitreFractions$Table" "LitreFractions$Table" "xs" "[J") ∈ WG := WG_at 46 rfl rfl
theorem wg_41 : (Cond.laysFinal "LitreFractions$Table" "LitreFractions$Table" "ys" "[J") ∈ WG := WG_at 48 rfl rfl
theorem wg_42 : (Cond.lays "LitreFractions$Table" "LitreFractions$Table" "below" "J") ∈ WG := WG_at 50 rfl rfl
theorem wg_43 : (Cond.lays "LitreFractions$Table" "LitreFractions$Table" "count" "I") ∈ WG := WG_at 52 rfl rfl
theorem wg_44 : (Cond.arrayClass Jvm.ClassFile.FieldType.long) ∈ WG := WG_at 55 rfl rfl
theorem wg_45 : (Cond.arrayClass Jvm.ClassFile.FieldType.int) ∈ WG := WG_at 56 rfl rfl
theorem wg_46 : (Cond.fieldLink "LitreFractions" (9 : Nat) "LitreFractions" "aboves" "[J") ∈ WG := WG_at 57 rfl rfl
theorem wg_47 : (Cond.fieldLink "LitreFractions" (13 : Nat) "LitreFractions" "belows" "[J") ∈ WG := WG_at 58 rfl rfl
theorem wg_48 : (Cond.fieldLink "LitreFractions" (16 : Nat) "LitreFractions" "units" "[I") ∈ WG := WG_at 59 rfl rfl
theorem wg_49 : (Cond.fieldLink "LitreFractions" (137 : Nat) "LitreFractions" "amountCount" "I") ∈ WG := WG_at 60 rfl rfl
theorem wg_50 : (Cond.fieldLink "LitreFractions" (20 : Nat) "LitreFractions" "weights" "[J") ∈ WG := WG_at 61 rfl rfl
theorem wg_51 : (Cond.fieldLink "LitreFractions" (104 : Nat) "LitreFractions" "weightCount" "I") ∈ WG := WG_at 62 rfl rfl
theorem wg_52 : (Cond.fieldLink "LitreFractions" (25 : Nat) "LitreFractions" "tables" "[LLitreFractions$Table;") ∈ WG := WG_at 63 rfl rfl
theorem wg_53 : (Cond.laysFinal "LitreFractions" "LitreFractions" "aboves" "[J") ∈ WG := WG_at 64 rfl rfl
theorem wg_54 : (Cond.laysFinal "LitreFractions" "LitreFractions" "belows" "[J") ∈ WG := WG_at 66 rfl rfl
theorem wg_55 : (Cond.laysFinal "LitreFractions" "LitreFractions" "units" "[I") ∈ WG := WG_at 68 rfl rfl
theorem wg_56 : (Cond.lays "LitreFractions" "LitreFractions" "amountCount" "I") ∈ WG := WG_at 70 rfl rfl
theorem wg_57 : (Cond.laysFinal "LitreFractions" "LitreFractions" "weights" "[J") ∈ WG := WG_at 72 rfl rfl
theorem wg_58 : (Cond.lays "LitreFractions" "LitreFractions" "weightCount" "I") ∈ WG := WG_at 74 rfl rfl
theorem wg_59 : (Cond.laysFinal "LitreFractions" "LitreFractions" "tables" "[LLitreFractions$Table;") ∈ WG := WG_at 76 rfl rfl
theorem wg_60 : (Cond.methodLink "LitreFractionsLaw" (41 : Nat) ({ cls := "LitreFractions", name := "add", desc := "(II)I" } : Jvm.MethodName)) ∈ WG := WG_at 79 rfl rfl
theorem wg_61 : (Cond.instanceMethod ({ cls := "LitreFractions", name := "add", desc := "(II)I" } : Jvm.MethodName)) ∈ WG := WG_at 80 rfl rfl
theorem wg_62 : (Cond.selects "LitreFractions" ({ cls := "LitreFractions", name := "add", desc := "(II)I" } : Jvm.MethodName) ({ cls := "LitreFractions", name := "add", desc := "(II)I" } : Jvm.MethodName)) ∈ WG := WG_at 81 rfl rfl
theorem wg_63 : (Cond.code ({ cls := "LitreFractions", name := "add", desc := "(II)I" } : Jvm.MethodName) prog_1_method_3_code (3 : Nat) (Option.some Jvm.ClassFile.FieldType.int)) ∈ WG := WG_at 82 rfl rfl
theorem wg_64 : (Cond.methodLink "LitreFractions" (45 : Nat) ({ cls := "LitreFractions", name := "isAmount", desc := "(I)Z" } : Jvm.MethodName)) ∈ WG := WG_at 83 rfl rfl
theorem wg_65 : (Cond.instanceMethod ({ cls := "LitreFractions", name := "isAmount", desc := "(I)Z" } : Jvm.MethodName)) ∈ WG := WG_at 85 rfl rfl
theorem wg_66 : (Cond.code ({ cls := "LitreFractions", name := "isAmount", desc := "(I)Z" } : Jvm.MethodName) prog_1_method_15_code (2 : Nat) (Option.some Jvm.ClassFile.FieldType.boolean)) ∈ WG := WG_at 86 rfl rfl
theorem wg_67 : (Cond.methodLink "LitreFractions" (41 : Nat) ({ cls := "LitreFractions", name := "keep", desc := "(JJI)I" } : Jvm.MethodName)) ∈ WG := WG_at 87 rfl rfl
theorem wg_68 : (Cond.instanceMethod ({ cls := "LitreFractions", name := "keep", desc := "(JJI)I" } : Jvm.MethodName)) ∈ WG := WG_at 89 rfl rfl
theorem wg_69 : (Cond.code ({ cls := "LitreFractions", name := "keep", desc := "(JJI)I" } : Jvm.MethodName) prog_1_method_18_code (14 : Nat) (Option.some Jvm.ClassFile.FieldType.int)) ∈ WG := WG_at 90 rfl rfl
theorem wg_70 : (Cond.methodLink "LitreFractions" (144 : Nat) ({ cls := "LitreFractions", name := "commonDivisor", desc := "(JJ)J" } : Jvm.MethodName)) ∈ WG := WG_at 91 rfl rfl
theorem wg_71 : (Cond.static ({ cls := "LitreFractions", name := "commonDivisor", desc := "(JJ)J" } : Jvm.MethodName)) ∈ WG := WG_at 92 rfl rfl
theorem wg_72 : (Cond.code ({ cls := "LitreFractions", name := "commonDivisor", desc := "(JJ)J" } : Jvm.MethodName) prog_1_method_19_code (11 : Nat) (Option.some Jvm.ClassFile.FieldType.long)) ∈ WG := WG_at 93 rfl rfl
theorem wg_73 : (Cond.methodLink "LitreFractions" (117 : Nat) ({ cls := "java/lang/Math", name := "abs", desc := "(J)J" } : Jvm.MethodName)) ∈ WG := WG_at 94 rfl rfl
theorem wg_74 : (Cond.static ({ cls := "java/lang/Math", name := "abs", desc := "(J)J" } : Jvm.MethodName)) ∈ WG := WG_at 95 rfl rfl
theorem wg_75 : (Cond.code ({ cls := "java/lang/Math", name := "abs", desc := "(J)J" } : Jvm.MethodName) prog_9_method_61_code (2 : Nat) (Option.some Jvm.ClassFile.FieldType.long)) ∈ WG := WG_at 96 rfl rfl
theorem wg_76 : (Cond.constantLong "LitreFractions" (147 : Nat) (-2147483647 : Int64)) ∈ WG := WG_at 97 rfl rfl
theorem wg_77 : (Cond.constantLong "LitreFractions" (149 : Nat) (2147483647 : Int64)) ∈ WG := WG_at 98 rfl rfl
theorem wg_78 : (Cond.methodLink "LitreFractionsLaw" (45 : Nat) ({ cls := "LitreFractions", name := "times", desc := "(II)I" } : Jvm.MethodName)) ∈ WG := WG_at 99 rfl rfl
theorem wg_79 : (Cond.instanceMethod ({ cls := "LitreFractions", name := "times", desc := "(II)I" } : Jvm.MethodName)) ∈ WG := WG_at 100 rfl rfl
theorem wg_80 : (Cond.selects "LitreFractions" ({ cls := "LitreFractions", name := "times", desc := "(II)I" } : Jvm.MethodName) ({ cls := "LitreFractions", name := "times", desc := "(II)I" } : Jvm.MethodName)) ∈ WG := WG_at 101 rfl rfl
theorem wg_81 : (Cond.code ({ cls := "LitreFractions", name := "times", desc := "(II)I" } : Jvm.MethodName) prog_1_method_4_code (4 : Nat) (Option.some Jvm.ClassFile.FieldType.int)) ∈ WG := WG_at 102 rfl rfl
theorem wg_82 : (Cond.methodLink "LitreFractions" (49 : Nat) ({ cls := "LitreFractions", name := "unitOfProduct", desc := "(II)I" } : Jvm.MethodName)) ∈ WG := WG_at 103 rfl rfl
theorem wg_83 : (Cond.static ({ cls := "LitreFractions", name := "unitOfProduct", desc := "(II)I" } : Jvm.MethodName)) ∈ WG := WG_at 104 rfl rfl
theorem wg_84 : (Cond.code ({ cls := "LitreFractions", name := "unitOfProduct", desc := "(II)I" } : Jvm.MethodName) prog_1_method_22_code (2 : Nat) (Option.some Jvm.ClassFile.FieldType.int)) ∈ WG := WG_at 105 rfl rfl
theorem wg_85 : (Cond.methodLink "LitreFractions" (157 : Nat) ({ cls := "LitreFractions", name := "isShareOf", desc := "(II)Z" } : Jvm.MethodName)) ∈ WG := WG_at 106 rfl rfl
theorem wg_86 : (Cond.static ({ cls := "LitreFractions", name := "isShareOf", desc := "(II)Z" } : Jvm.MethodName)) ∈ WG := WG_at 107 rfl rfl
theorem wg_87 : (Cond.code ({ cls := "LitreFractions", name := "isShareOf", desc := "(II)Z" } : Jvm.MethodName) prog_1_method_24_code (2 : Nat) (Option.some Jvm.ClassFile.FieldType.boolean)) ∈ WG := WG_at 108 rfl rfl
theorem wg_88 : (Cond.methodLink "LitreFractionsLaw" (53 : Nat) ({ cls := "LitreFractions", name := "round", desc := "(IIJ)I" } : Jvm.MethodName)) ∈ WG := WG_at 109 rfl rfl
theorem wg_89 : (Cond.instanceMethod ({ cls := "LitreFractions", name := "round", desc := "(IIJ)I" } : Jvm.MethodName)) ∈ WG := WG_at 110 rfl rfl
theorem wg_90 : (Cond.selects "LitreFractions" ({ cls := "LitreFractions", name := "round", desc := "(IIJ)I" } : Jvm.MethodName) ({ cls := "LitreFractions", name := "round", desc := "(IIJ)I" } : Jvm.MethodName)) ∈ WG := WG_at 111 rfl rfl
theorem wg_91 : (Cond.code ({ cls := "LitreFractions", name := "round", desc := "(IIJ)I" } : Jvm.MethodName) prog_1_method_6_code (13 : Nat) (Option.some Jvm.ClassFile.FieldType.int)) ∈ WG := WG_at 112 rfl rfl
theorem wg_92 : (Cond.constantLong "LitreFractions" (58 : Nat) (1000000000 : Int64)) ∈ WG := WG_at 113 rfl rfl
theorem wg_93 : (Cond.methodLink "LitreFractions" (60 : Nat) ({ cls := "LitreFractions", name := "quotientDown", desc := "(JJ)J" } : Jvm.MethodName)) ∈ WG := WG_at 114 rfl rfl
theorem wg_94 : (Cond.static ({ cls := "LitreFractions", name := "quotientDown", desc := "(JJ)J" } : Jvm.MethodName)) ∈ WG := WG_at 115 rfl rfl
theorem wg_95 : (Cond.code ({ cls := "LitreFractions", name := "quotientDown", desc := "(JJ)J" } : Jvm.MethodName) prog_1_method_20_code (4 : Nat) (Option.some Jvm.ClassFile.FieldType.long)) ∈ WG := WG_at 116 rfl rfl
theorem wg_96 : (Cond.methodLink "LitreFractions" (151 : Nat) ({ cls := "java/lang/Math", name := "floorDiv", desc := "(JJ)J" } : Jvm.MethodName)) ∈ WG := WG_at 117 rfl rfl
theorem wg_97 : (Cond.static ({ cls := "java/lang/Math", name := "floorDiv", desc := "(JJ)J" } : Jvm.MethodName)) ∈ WG := WG_at 118 rfl rfl
theorem wg_98 : (Cond.code ({ cls := "java/lang/Math", name := "floorDiv", desc := "(JJ)J" } : Jvm.MethodName) prog_9_method_49_code (6 : Nat) (Option.some Jvm.ClassFile.FieldType.long)) ∈ WG := WG_at 119 rfl rfl
theorem wg_99 : (Cond.methodLink "LitreFractions" (64 : Nat) ({ cls := "LitreFractions", name := "restOf", desc := "(JJ)J" } : Jvm.MethodName)) ∈ WG := WG_at 120 rfl rfl
theorem wg_100 : (Cond.static ({ cls := "LitreFractions", name := "restOf", desc := "(JJ)J" } : Jvm.MethodName)) ∈ WG := WG_at 121 rfl rfl
theorem wg_101 : (Cond.code ({ cls := "LitreFractions", name := "restOf", desc := "(JJ)J" } : Jvm.MethodName) prog_1_method_21_code (4 : Nat) (Option.some Jvm.ClassFile.FieldType.long)) ∈ WG := WG_at 122 rfl rfl
theorem wg_102 : (Cond.methodLink "LitreFractions" (154 : Nat) ({ cls := "java/lang/Math", name := "floorMod", desc := "(JJ)J" } : Jvm.MethodName)) ∈ WG := WG_at 123 rfl rfl
theorem wg_103 : (Cond.static ({ cls := "java/lang/Math", name := "floorMod", desc := "(JJ)J" } : Jvm.MethodName)) ∈ WG := WG_at 124 rfl rfl
theorem wg_104 : (Cond.code ({ cls := "java/lang/Math", name := "floorMod", desc := "(JJ)J" } : Jvm.MethodName) prog_9_method_52_code (6 : Nat) (Option.some Jvm.ClassFile.FieldType.long)) ∈ WG := WG_at 125 rfl rfl
theorem wg_105 : (Cond.methodLink "LitreFractions" (67 : Nat) ({ cls := "LitreFractions", name := "goesUp", desc := "(IJJJ)Z" } : Jvm.MethodName)) ∈ WG := WG_at 126 rfl rfl
theorem wg_106 : (Cond.static ({ cls := "LitreFractions", name := "goesUp", desc := "(IJJJ)Z" } : Jvm.MethodName)) ∈ WG := WG_at 127 rfl rfl
theorem wg_107 : (Cond.code ({ cls := "LitreFractions", name := "goesUp", desc := "(IJJJ)Z" } : Jvm.MethodName) prog_1_method_25_code (8 : Nat) (Option.some Jvm.ClassFile.FieldType.boolean)) ∈ WG := WG_at 128 rfl rfl
theorem wg_108 : (Cond.constantLong "LitreFractions" (161 : Nat) (2 : Int64)) ∈ WG := WG_at 129 rfl rfl
theorem wg_109 : (Cond.methodLink "LitreFractions" (163 : Nat) ({ cls := "java/lang/Long", name := "compare", desc := "(JJ)I" } : Jvm.MethodName)) ∈ WG := WG_at 130 rfl rfl
theorem wg_110 : (Cond.static ({ cls := "java/lang/Long", name := "compare", desc := "(JJ)I" } : Jvm.MethodName)) ∈ WG := WG_at 131 rfl rfl
theorem wg_111 : (Cond.code ({ cls := "java/lang/Long", name := "compare", desc := "(JJ)I" } : Jvm.MethodName) prog_8_method_42_code (4 : Nat) (Option.some Jvm.ClassFile.FieldType.int)) ∈ WG := WG_at 132 rfl rfl
theorem wg_112 : (Cond.methodLink "LitreFractionsLaw" (58 : Nat) ({ cls := "LitreFractions", name := "order", desc := "(II)I" } : Jvm.MethodName)) ∈ WG := WG_at 133 rfl rfl
theorem wg_113 : (Cond.instanceMethod ({ cls := "LitreFractions", name := "order", desc := "(II)I" } : Jvm.MethodName)) ∈ WG := WG_at 134 rfl rfl
theorem wg_114 : (Cond.selects "LitreFractions" ({ cls := "LitreFractions", name := "order", desc := "(II)I" } : Jvm.MethodName) ({ cls := "LitreFractions", name := "order", desc := "(II)I" } : Jvm.MethodName)) ∈ WG := WG_at 135 rfl rfl
theorem wg_115 : (Cond.code ({ cls := "LitreFractions", name := "order", desc := "(II)I" } : Jvm.MethodName) prog_1_method_7_code (7 : Nat) (Option.some Jvm.ClassFile.FieldType.int)) ∈ WG := WG_at 136 rfl rfl
theorem wg_116 : (Cond.methodLink "LitreFractionsLaw" (62 : Nat) ({ cls := "LitreFractions", name := "row", desc := "(IJJJ)Z" } : Jvm.MethodName)) ∈ WG := WG_at 137 rfl rfl
theorem wg_117 : (Cond.instanceMethod ({ cls := "LitreFractions", name := "row", desc := "(IJJJ)Z" } : Jvm.MethodName)) ∈ WG := WG_at 138 rfl rfl
theorem wg_118 : (Cond.selects "LitreFractions" ({ cls := "LitreFractions", name := "row", desc := "(IJJJ)Z" } : Jvm.MethodName) ({ cls := "LitreFractions", name := "row", desc := "(IJJJ)Z" } : Jvm.MethodName)) ∈ WG := WG_at 139 rfl rfl
theorem wg_119 : (Cond.code ({ cls := "LitreFractions", name := "row", desc := "(IJJJ)Z" } : Jvm.MethodName) prog_1_method_8_code (9 : Nat) (Option.some Jvm.ClassFile.FieldType.boolean)) ∈ WG := WG_at 140 rfl rfl
theorem wg_120 : (Cond.methodLink "LitreFractions" (71 : Nat) ({ cls := "LitreFractions", name := "tableAt", desc := "(I)LLitreFractions$Table;" } : Jvm.MethodName)) ∈ WG := WG_at 141 rfl rfl
theorem wg_121 : (Cond.instanceMethod ({ cls := "LitreFractions", name := "tableAt", desc := "(I)LLitreFractions$Table;" } : Jvm.MethodName)) ∈ WG := WG_at 143 rfl rfl
theorem wg_122 : (Cond.code ({ cls := "LitreFractions", name := "tableAt", desc := "(I)LLitreFractions$Table;" } : Jvm.MethodName) prog_1_method_16_code (2 : Nat) (Option.some (Jvm.ClassFile.FieldType.object "LitreFractions$Table"))) ∈ WG := WG_at 144 rfl rfl
theorem wg_123 : (Cond.instanceMethod ({ cls := "LitreFractions$Table", name := "takes", desc := "(JJJ)Z" } : Jvm.MethodName)) ∈ WG := WG_at 147 rfl rfl
theorem wg_124 : (Cond.code ({ cls := "LitreFractions$Table", name := "takes", desc := "(JJJ)Z" } : Jvm.MethodName) prog_2_method_2_code (7 : Nat) (Option.some Jvm.ClassFile.FieldType.boolean)) ∈ WG := WG_at 148 rfl rfl
theorem wg_125 : (Cond.constantLong "LitreFractions$Table" (22 : Nat) (100 : Int64)) ∈ WG := WG_at 149 rfl rfl
theorem wg_126 : (Cond.methodLink "LitreFractions$Table" (24 : Nat) ({ cls := "LitreFractions$Table", name := "isInside", desc := "(J)Z" } : Jvm.MethodName)) ∈ WG := WG_at 150 rfl rfl
theorem wg_127 : (Cond.static ({ cls := "LitreFractions$Table", name := "isInside", desc := "(J)Z" } : Jvm.MethodName)) ∈ WG := WG_at 151 rfl rfl
theorem wg_128 : (Cond.code ({ cls := "LitreFractions$Table", name := "isInside", desc := "(J)Z" } : Jvm.MethodName) prog_2_method_3_code (2 : Nat) (Option.some Jvm.ClassFile.FieldType.boolean)) ∈ WG := WG_at 152 rfl rfl
theorem wg_129 : (Cond.constantLong "LitreFractions$Table" (32 : Nat) (-10000 : Int64)) ∈ WG := WG_at 153 rfl rfl
theorem wg_130 : (Cond.constantLong "LitreFractions$Table" (34 : Nat) (10000 : Int64)) ∈ WG := WG_at 154 rfl rfl
theorem wg_131 : (Cond.instanceMethod ({ cls := "LitreFractions$Table", name := "append", desc := "(JJJ)V" } : Jvm.MethodName)) ∈ WG := WG_at 157 rfl rfl
theorem wg_132 : (Cond.code ({ cls := "LitreFractions$Table", name := "append", desc := "(JJJ)V" } : Jvm.MethodName) prog_2_method_4_code (7 : Nat) (Option.none : Option Jvm.ClassFile.FieldType)) ∈ WG := WG_at 158 rfl rfl
theorem wg_133 : (Cond.methodLink "LitreFractionsLaw" (67 : Nat) ({ cls := "LitreFractions", name := "join", desc := "(II)I" } : Jvm.MethodName)) ∈ WG := WG_at 159 rfl rfl
theorem wg_134 : (Cond.instanceMethod ({ cls := "LitreFractions", name := "join", desc := "(II)I" } : Jvm.MethodName)) ∈ WG := WG_at 160 rfl rfl
theorem wg_135 : (Cond.selects "LitreFractions" ({ cls := "LitreFractions", name := "join", desc := "(II)I" } : Jvm.MethodName) ({ cls := "LitreFractions", name := "join", desc := "(II)I" } : Jvm.MethodName)) ∈ WG := WG_at 161 rfl rfl
theorem wg_136 : (Cond.code ({ cls := "LitreFractions", name := "join", desc := "(II)I" } : Jvm.MethodName) prog_1_method_9_code (5 : Nat) (Option.some Jvm.ClassFile.FieldType.int)) ∈ WG := WG_at 162 rfl rfl
theorem wg_137 : (Cond.instanceMethod ({ cls := "LitreFractions$Table", name := "firstNotBefore", desc := "(JJ)I" } : Jvm.MethodName)) ∈ WG := WG_at 165 rfl rfl
theorem wg_138 : (Cond.code ({ cls := "LitreFractions$Table", name := "firstNotBefore", desc := "(JJ)I" } : Jvm.MethodName) prog_2_method_5_code (8 : Nat) (Option.some Jvm.ClassFile.FieldType.int)) ∈ WG := WG_at 166 rfl rfl
theorem wg_139 : (Cond.methodLink "LitreFractions" (98 : Nat) ({ cls := "LitreFractions", name := "keepBetween", desc := "(LLitreFractions$Table;II)I" } : Jvm.MethodName)) ∈ WG := WG_at 167 rfl rfl
theorem wg_140 : (Cond.instanceMethod ({ cls := "LitreFractions", name := "keepBetween", desc := "(LLitreFractions$Table;II)I" } : Jvm.MethodName)) ∈ WG := WG_at 169 rfl rfl
theorem wg_141 : (Cond.code ({ cls := "LitreFractions", name := "keepBetween", desc := "(LLitreFractions$Table;II)I" } : Jvm.MethodName) prog_1_method_26_code (12 : Nat) (Option.some Jvm.ClassFile.FieldType.int)) ∈ WG := WG_at 170 rfl rfl
theorem wg_142 : (Cond.methodLink "LitreFractionsLaw" (71 : Nat) ({ cls := "LitreFractions", name := "weight", desc := "(J)Z" } : Jvm.MethodName)) ∈ WG := WG_at 171 rfl rfl
theorem wg_143 : (Cond.instanceMethod ({ cls := "LitreFractions", name := "weight", desc := "(J)Z" } : Jvm.MethodName)) ∈ WG := WG_at 172 rfl rfl
theorem wg_144 : (Cond.selects "LitreFractions" ({ cls := "LitreFractions", name := "weight", desc := "(J)Z" } : Jvm.MethodName) ({ cls := "LitreFractions", name := "weight", desc := "(J)Z" } : Jvm.MethodName)) ∈ WG := WG_at 173 rfl rfl
theorem wg_145 : (Cond.code ({ cls := "LitreFractions", name := "weight", desc := "(J)Z" } : Jvm.MethodName) prog_1_method_10_code (3 : Nat) (Option.some Jvm.ClassFile.FieldType.boolean)) ∈ WG := WG_at 174 rfl rfl
theorem wg_146 : (Cond.constantLong "LitreFractions" (102 : Nat) (1000000 : Int64)) ∈ WG := WG_at 175 rfl rfl
theorem wg_147 : (Cond.methodLink "LitreFractionsLaw" (76 : Nat) ({ cls := "LitreFractions", name := "share", desc := "(II)I" } : Jvm.MethodName)) ∈ WG := WG_at 176 rfl rfl
theorem wg_148 : (Cond.instanceMethod ({ cls := "LitreFractions", name := "share", desc := "(II)I" } : Jvm.MethodName)) ∈ WG := WG_at 177 rfl rfl
theorem wg_149 : (Cond.selects "LitreFractions" ({ cls := "LitreFractions", name := "share", desc := "(II)I" } : Jvm.MethodName) ({ cls := "LitreFractions", name := "share", desc := "(II)I" } : Jvm.MethodName)) ∈ WG := WG_at 178 rfl rfl
theorem wg_150 : (Cond.code ({ cls := "LitreFractions", name := "share", desc := "(II)I" } : Jvm.MethodName) prog_1_method_11_code (11 : Nat) (Option.some Jvm.ClassFile.FieldType.int)) ∈ WG := WG_at 179 rfl rfl
theorem wg_151 : (Cond.methodLink "LitreFractions" (107 : Nat) ({ cls := "LitreFractions", name := "sumOfWeights", desc := "()J" } : Jvm.MethodName)) ∈ WG := WG_at 180 rfl rfl
theorem wg_152 : (Cond.instanceMethod ({ cls := "LitreFractions", name := "sumOfWeights", desc := "()J" } : Jvm.MethodName)) ∈ WG := WG_at 182 rfl rfl
theorem wg_153 : (Cond.code ({ cls := "LitreFractions", name := "sumOfWeights", desc := "()J" } : Jvm.MethodName) prog_1_method_27_code (4 : Nat) (Option.some Jvm.ClassFile.FieldType.long)) ∈ WG := WG_at 183 rfl rfl
theorem wg_154 : (Cond.constantLong "LitreFractions" (111 : Nat) (1000 : Int64)) ∈ WG := WG_at 184 rfl rfl
theorem wg_155 : (Cond.methodLink "LitreFractions" (113 : Nat) ({ cls := "LitreFractions", name := "thousandthsOf", desc := "(IJJ)J" } : Jvm.MethodName)) ∈ WG := WG_at 185 rfl rfl
theorem wg_156 : (Cond.instanceMethod ({ cls := "LitreFractions", name := "thousandthsOf", desc := "(IJJ)J" } : Jvm.MethodName)) ∈ WG := WG_at 187 rfl rfl
theorem wg_157 : (Cond.code ({ cls := "LitreFractions", name := "thousandthsOf", desc := "(IJJ)J" } : Jvm.MethodName) prog_1_method_28_code (18 : Nat) (Option.some Jvm.ClassFile.FieldType.long)) ∈ WG := WG_at 188 rfl rfl
theorem wg_158 : (Cond.methodLink "LitreFractionsLaw" (84 : Nat) ({ cls := "LitreFractions", name := "told", desc := "(II)J" } : Jvm.MethodName)) ∈ WG := WG_at 189 rfl rfl
theorem wg_159 : (Cond.instanceMethod ({ cls := "LitreFractions", name := "told", desc := "(II)J" } : Jvm.MethodName)) ∈ WG := WG_at 190 rfl rfl
theorem wg_160 : (Cond.selects "LitreFractions" ({ cls := "LitreFractions", name := "told", desc := "(II)J" } : Jvm.MethodName) ({ cls := "LitreFractions", name := "told", desc := "(II)J" } : Jvm.MethodName)) ∈ WG := WG_at 191 rfl rfl
theorem wg_161 : (Cond.code ({ cls := "LitreFractions", name := "told", desc := "(II)J" } : Jvm.MethodName) prog_1_method_13_code (4 : Nat) (Option.some Jvm.ClassFile.FieldType.long)) ∈ WG := WG_at 192 rfl rfl
theorem wg_162 : (Cond.constantLong "LitreFractions" (135 : Nat) (-9 : Int64)) ∈ WG := WG_at 193 rfl rfl
theorem wg_163 : (Cond.methodLink "LitreFractionsLaw" (89 : Nat) ({ cls := "LitreFractions", name := "clear", desc := "()V" } : Jvm.MethodName)) ∈ WG := WG_at 194 rfl rfl
theorem wg_164 : (Cond.instanceMethod ({ cls := "LitreFractions", name := "clear", desc := "()V" } : Jvm.MethodName)) ∈ WG := WG_at 195 rfl rfl
theorem wg_165 : (Cond.selects "LitreFractions" ({ cls := "LitreFractions", name := "clear", desc := "()V" } : Jvm.MethodName) ({ cls := "LitreFractions", name := "clear", desc := "()V" } : Jvm.MethodName)) ∈ WG := WG_at 196 rfl rfl
theorem wg_166 : (Cond.code ({ cls := "LitreFractions", name := "clear", desc := "()V" } : Jvm.MethodName) prog_1_method_14_code (3 : Nat) (Option.none : Option Jvm.ClassFile.FieldType)) ∈ WG := WG_at 197 rfl rfl
theorem wg_167 : (Cond.methodLink "LitreFractionsLaw" (31 : Nat) ({ cls := "LitreFractionsLaw", name := "value", desc := "(LLitreFractions;JJI[J)I" } : Jvm.MethodName)) ∈ WG := WG_at 198 rfl rfl
theorem wg_168 : (Cond.static ({ cls := "LitreFractionsLaw", name := "value", desc := "(LLitreFractions;JJI[J)I" } : Jvm.MethodName)) ∈ WG := WG_at 199 rfl rfl
theorem wg_169 : (Cond.classLink "LitreFractionsLaw" (13 : Nat) "java/lang/ArithmeticException") ∈ WG := WG_at 201 rfl rfl
theorem wg_170 : (Cond.methodLink "LitreFractionsLaw" (7 : Nat) ({ cls := "LitreFractions", name := "value", desc := "(JJI)I" } : Jvm.MethodName)) ∈ WG := WG_at 202 rfl rfl
theorem wg_171 : (Cond.instanceMethod ({ cls := "LitreFractions", name := "value", desc := "(JJI)I" } : Jvm.MethodName)) ∈ WG := WG_at 203 rfl rfl
theorem wg_172 : (Cond.selects "LitreFractions" ({ cls := "LitreFractions", name := "value", desc := "(JJI)I" } : Jvm.MethodName) ({ cls := "LitreFractions", name := "value", desc := "(JJI)I" } : Jvm.MethodName)) ∈ WG := WG_at 204 rfl rfl
theorem wg_173 : (Cond.code ({ cls := "LitreFractions", name := "value", desc := "(JJI)I" } : Jvm.MethodName) prog_1_method_2_code (6 : Nat) (Option.some Jvm.ClassFile.FieldType.int)) ∈ WG := WG_at 205 rfl rfl
theorem wg_174 : (Cond.classLink "LitreFractions" (30 : Nat) "java/lang/ArithmeticException") ∈ WG := WG_at 206 rfl rfl
theorem wg_175 : (Cond.instantiable "java/lang/ArithmeticException" (6 : Nat)) ∈ WG := WG_at 207 rfl rfl
theorem wg_176 : (Cond.selects "java/lang/ArithmeticException" ({ cls := "java/lang/Throwable", name := "fillInStackTrace", desc := "(I)Ljava/lang/Throwable;" } : Jvm.MethodName) ({ cls := "java/lang/Throwable", name := "fillInStackTrace", desc := "(I)Ljava/lang/Throwable;" } : Jvm.MethodName)) ∈ WG := WG_at 215 rfl rfl
theorem wg_177 : (Cond.selects "java/lang/ArithmeticException" ({ cls := "java/lang/Throwable", name := "fillInStackTrace", desc := "()Ljava/lang/Throwable;" } : Jvm.MethodName) ({ cls := "java/lang/Throwable", name := "fillInStackTrace", desc := "()Ljava/lang/Throwable;" } : Jvm.MethodName)) ∈ WG := WG_at 216 rfl rfl
theorem wg_178 : (Cond.lays "java/lang/ArithmeticException" "java/lang/Throwable" "cause" "Ljava/lang/Throwable;") ∈ WG := WG_at 217 rfl rfl
theorem wg_179 : (Cond.lays "java/lang/Throwable" "java/lang/Throwable" "cause" "Ljava/lang/Throwable;") ∈ WG := WG_at 218 rfl rfl
theorem wg_180 : (Cond.lays "java/lang/ArithmeticException" "java/lang/Throwable" "stackTrace" "[Ljava/lang/StackTraceElement;") ∈ WG := WG_at 219 rfl rfl
theorem wg_181 : (Cond.lays "java/lang/Throwable" "java/lang/Throwable" "stackTrace" "[Ljava/lang/StackTraceElement;") ∈ WG := WG_at 220 rfl rfl
theorem wg_182 : (Cond.lays "java/lang/ArithmeticException" "java/lang/Throwable" "suppressedExceptions" "Ljava/util/List;") ∈ WG := WG_at 221 rfl rfl
theorem wg_183 : (Cond.lays "java/lang/Throwable" "java/lang/Throwable" "suppressedExceptions" "Ljava/util/List;") ∈ WG := WG_at 222 rfl rfl
theorem wg_184 : (Cond.lays "java/lang/ArithmeticException" "java/lang/Throwable" "detailMessage" "Ljava/lang/String;") ∈ WG := WG_at 223 rfl rfl
theorem wg_185 : (Cond.lays "java/lang/Throwable" "java/lang/Throwable" "detailMessage" "Ljava/lang/String;") ∈ WG := WG_at 224 rfl rfl
theorem wg_186 : (Cond.lays "java/lang/ArithmeticException" "java/lang/Throwable" "backtrace" "Ljava/lang/Object;") ∈ WG := WG_at 225 rfl rfl
theorem wg_187 : (Cond.lays "java/lang/Throwable" "java/lang/Throwable" "backtrace" "Ljava/lang/Object;") ∈ WG := WG_at 226 rfl rfl
theorem wg_188 : (Cond.fieldLink "java/lang/Throwable" (198 : Nat) "java/lang/Throwable" "backtrace" "Ljava/lang/Object;") ∈ WG := WG_at 227 rfl rfl
theorem wg_189 : (Cond.instanceMethod ({ cls := "java/lang/Throwable", name := "<init>", desc := "()V" } : Jvm.MethodName)) ∈ WG := WG_at 229 rfl rfl
theorem wg_190 : (Cond.code ({ cls := "java/lang/Throwable", name := "<init>", desc := "()V" } : Jvm.MethodName) prog_12_method_1_code (1 : Nat) (Option.none : Option Jvm.ClassFile.FieldType)) ∈ WG := WG_at 230 rfl rfl
theorem wg_191 : (Cond.methodLink "java/lang/Throwable" (1 : Nat) ({ cls := "java/lang/Object", name := "<init>", desc := "()V" } : Jvm.MethodName)) ∈ WG := WG_at 231 rfl rfl
theorem wg_192 : (Cond.fieldLink "java/lang/Throwable" (13 : Nat) "java/lang/Throwable" "UNASSIGNED_STACK" "[Ljava/lang/StackTraceElement;") ∈ WG := WG_at 232 rfl rfl
theorem wg_193 : (Cond.fieldLink "java/lang/Throwable" (20 : Nat) "java/lang/Throwable" "SUPPRESSED_SENTINEL" "Ljava/util/List;") ∈ WG := WG_at 234 rfl rfl
theorem wg_194 : (Cond.methodLink "java/lang/Throwable" (27 : Nat) ({ cls := "java/lang/Throwable", name := "fillInStackTrace", desc := "()Ljava/lang/Throwable;" } : Jvm.MethodName)) ∈ WG := WG_at 236 rfl rfl
theorem wg_195 : (Cond.instanceMethod ({ cls := "java/lang/Throwable", name := "fillInStackTrace", desc := "()Ljava/lang/Throwable;" } : Jvm.MethodName)) ∈ WG := WG_at 237 rfl rfl
theorem wg_196 : (Cond.selects "java/lang/IndexOutOfBoundsException" ({ cls := "java/lang/Throwable", name := "fillInStackTrace", desc := "()Ljava/lang/Throwable;" } : Jvm.MethodName) ({ cls := "java/lang/Throwable", name := "fillInStackTrace", desc := "()Ljava/lang/Throwable;" } : Jvm.MethodName)) ∈ WG := WG_at 239 rfl rfl
theorem wg_197 : (Cond.methodLink "java/lang/Throwable" (202 : Nat) ({ cls := "java/lang/Throwable", name := "fillInStackTrace", desc := "(I)Ljava/lang/Throwable;" } : Jvm.MethodName)) ∈ WG := WG_at 241 rfl rfl
theorem wg_198 : (Cond.instanceMethod ({ cls := "java/lang/Throwable", name := "fillInStackTrace", desc := "(I)Ljava/lang/Throwable;" } : Jvm.MethodName)) ∈ WG := WG_at 243 rfl rfl
theorem wg_199 : (Cond.instantiable "java/lang/Throwable" (6 : Nat)) ∈ WG := WG_at 244 rfl rfl
theorem wg_200 : (Cond.methodLink "LitreFractions" (34 : Nat) ({ cls := "java/lang/ArithmeticException", name := "<init>", desc := "(Ljava/lang/String;)V" } : Jvm.MethodName)) ∈ WG := WG_at 247 rfl rfl
theorem wg_201 : (Cond.instanceMethod ({ cls := "java/lang/ArithmeticException", name := "<init>", desc := "(Ljava/lang/String;)V" } : Jvm.MethodName)) ∈ WG := WG_at 248 rfl rfl
theorem wg_202 : (Cond.code ({ cls := "java/lang/ArithmeticException", name := "<init>", desc := "(Ljava/lang/String;)V" } : Jvm.MethodName) prog_5_method_2_code (2 : Nat) (Option.none : Option Jvm.ClassFile.FieldType)) ∈ WG := WG_at 249 rfl rfl
theorem wg_203 : (Cond.methodLink "java/lang/ArithmeticException" (7 : Nat) ({ cls := "java/lang/RuntimeException", name := "<init>", desc := "(Ljava/lang/String;)V" } : Jvm.MethodName)) ∈ WG := WG_at 250 rfl rfl
theorem wg_204 : (Cond.instanceMethod ({ cls := "java/lang/RuntimeException", name := "<init>", desc := "(Ljava/lang/String;)V" } : Jvm.MethodName)) ∈ WG := WG_at 251 rfl rfl
theorem wg_205 : (Cond.code ({ cls := "java/lang/RuntimeException", name := "<init>", desc := "(Ljava/lang/String;)V" } : Jvm.MethodName) prog_10_method_2_code (2 : Nat) (Option.none : Option Jvm.ClassFile.FieldType)) ∈ WG := WG_at 252 rfl rfl
theorem wg_206 : (Cond.methodLink "java/lang/RuntimeException" (7 : Nat) ({ cls := "java/lang/Exception", name := "<init>", desc := "(Ljava/lang/String;)V" } : Jvm.MethodName)) ∈ WG := WG_at 253 rfl rfl
theorem wg_207 : (Cond.instanceMethod ({ cls := "java/lang/Exception", name := "<init>", desc := "(Ljava/lang/String;)V" } : Jvm.MethodName)) ∈ WG := WG_at 254 rfl rfl
theorem wg_208 : (Cond.code ({ cls := "java/lang/Exception", name := "<init>", desc := "(Ljava/lang/String;)V" } : Jvm.MethodName) prog_6_method_2_code (2 : Nat) (Option.none : Option Jvm.ClassFile.FieldType)) ∈ WG := WG_at 255 rfl rfl
theorem wg_209 : (Cond.methodLink "java/lang/Exception" (7 : Nat) ({ cls := "java/lang/Throwable", name := "<init>", desc := "(Ljava/lang/String;)V" } : Jvm.MethodName)) ∈ WG := WG_at 256 rfl rfl
theorem wg_210 : (Cond.instanceMethod ({ cls := "java/lang/Throwable", name := "<init>", desc := "(Ljava/lang/String;)V" } : Jvm.MethodName)) ∈ WG := WG_at 257 rfl rfl
theorem wg_211 : (Cond.code ({ cls := "java/lang/Throwable", name := "<init>", desc := "(Ljava/lang/String;)V" } : Jvm.MethodName) prog_12_method_2_code (2 : Nat) (Option.none : Option Jvm.ClassFile.FieldType)) ∈ WG := WG_at 258 rfl rfl
theorem wg_212 : (Cond.fieldLink "java/lang/Throwable" (198 : Nat) "java/lang/Throwable" "backtrace" "Ljava/lang/Object;") ∈ WG := WG_at 259 rfl rfl
theorem wg_213 : (Cond.fieldLink "java/lang/Throwable" (31 : Nat) "java/lang/Throwable" "detailMessage" "Ljava/lang/String;") ∈ WG := WG_at 260 rfl rfl
theorem wg_214 : (Cond.fieldLink "java/lang/Throwable" (7 : Nat) "java/lang/Throwable" "cause" "Ljava/lang/Throwable;") ∈ WG := WG_at 261 rfl rfl
theorem wg_215 : (Cond.fieldLink "java/lang/Throwable" (17 : Nat) "java/lang/Throwable" "stackTrace" "[Ljava/lang/StackTraceElement;") ∈ WG := WG_at 262 rfl rfl
theorem wg_216 : (Cond.fieldLink "java/lang/Throwable" (24 : Nat) "java/lang/Throwable" "suppressedExceptions" "Ljava/util/List;") ∈ WG := WG_at 263 rfl rfl
theorem wg_217 : (Cond.lays "java/lang/ArithmeticException" "java/lang/Throwable" "depth" "I") ∈ WG := WG_at 268 rfl rfl
theorem wg_218 : (Cond.arrayClass Jvm.ClassFile.FieldType.byte) ∈ WG := WG_at 272 rfl rfl
theorem wg_219 : (Cond.methodLink "LitreFractions" (37 : Nat) ({ cls := "LitreFractions", name := "isTooFar", desc := "(J)Z" } : Jvm.MethodName)) ∈ WG := WG_at 273 rfl rfl
theorem wg_220 : (Cond.static ({ cls := "LitreFractions", name := "isTooFar", desc := "(J)Z" } : Jvm.MethodName)) ∈ WG := WG_at 274 rfl rfl
theorem wg_221 : (Cond.code ({ cls := "LitreFractions", name := "isTooFar", desc := "(J)Z" } : Jvm.MethodName) prog_1_method_17_code (2 : Nat) (Option.some Jvm.ClassFile.FieldType.boolean)) ∈ WG := WG_at 275 rfl rfl
theorem wg_222 : (Cond.constantLong "LitreFractions" (140 : Nat) (-1000000000000000000 : Int64)) ∈ WG := WG_at 276 rfl rfl
theorem wg_223 : (Cond.constantLong "LitreFractions" (142 : Nat) (1000000000000000000 : Int64)) ∈ WG := WG_at 277 rfl rfl
theorem wg_224 : (Cond.methodLink "LitreFractionsLaw" (49 : Nat) ({ cls := "LitreFractionsLaw", name := "over", desc := "(LLitreFractions;II[J)I" } : Jvm.MethodName)) ∈ WG := WG_at 278 rfl rfl
theorem wg_225 : (Cond.static ({ cls := "LitreFractionsLaw", name := "over", desc := "(LLitreFractions;II[J)I" } : Jvm.MethodName)) ∈ WG := WG_at 279 rfl rfl
theorem wg_226 : (Cond.methodLink "LitreFractionsLaw" (15 : Nat) ({ cls := "LitreFractions", name := "over", desc := "(II)I" } : Jvm.MethodName)) ∈ WG := WG_at 281 rfl rfl
theorem wg_227 : (Cond.instanceMethod ({ cls := "LitreFractions", name := "over", desc := "(II)I" } : Jvm.MethodName)) ∈ WG := WG_at 282 rfl rfl
theorem wg_228 : (Cond.selects "LitreFractions" ({ cls := "LitreFractions", name := "over", desc := "(II)I" } : Jvm.MethodName) ({ cls := "LitreFractions", name := "over", desc := "(II)I" } : Jvm.MethodName)) ∈ WG := WG_at 283 rfl rfl
theorem wg_229 : (Cond.code ({ cls := "LitreFractions", name := "over", desc := "(II)I" } : Jvm.MethodName) prog_1_method_5_code (4 : Nat) (Option.some Jvm.ClassFile.FieldType.int)) ∈ WG := WG_at 284 rfl rfl
theorem wg_230 : (Cond.methodLink "LitreFractions" (53 : Nat) ({ cls := "LitreFractions", name := "unitOfQuotient", desc := "(II)I" } : Jvm.MethodName)) ∈ WG := WG_at 285 rfl rfl
theorem wg_231 : (Cond.static ({ cls := "LitreFractions", name := "unitOfQuotient", desc := "(II)I" } : Jvm.MethodName)) ∈ WG := WG_at 286 rfl rfl
theorem wg_232 : (Cond.code ({ cls := "LitreFractions", name := "unitOfQuotient", desc := "(II)I" } : Jvm.MethodName) prog_1_method_23_code (2 : Nat) (Option.some Jvm.ClassFile.FieldType.int)) ∈ WG := WG_at 287 rfl rfl
theorem wg_233 : (Cond.methodLink "LitreFractionsLaw" (80 : Nat) ({ cls := "LitreFractionsLaw", name := "digit", desc := "(LLitreFractions;III[J)I" } : Jvm.MethodName)) ∈ WG := WG_at 289 rfl rfl
theorem wg_234 : (Cond.static ({ cls := "LitreFractionsLaw", name := "digit", desc := "(LLitreFractions;III[J)I" } : Jvm.MethodName)) ∈ WG := WG_at 290 rfl rfl
theorem wg_235 : (Cond.classLink "LitreFractionsLaw" (23 : Nat) "java/lang/IndexOutOfBoundsException") ∈ WG := WG_at 292 rfl rfl
theorem wg_236 : (Cond.methodLink "LitreFractionsLaw" (19 : Nat) ({ cls := "LitreFractions", name := "digit", desc := "(III)I" } : Jvm.MethodName)) ∈ WG := WG_at 293 rfl rfl
theorem wg_237 : (Cond.instanceMethod ({ cls := "LitreFractions", name := "digit", desc := "(III)I" } : Jvm.MethodName)) ∈ WG := WG_at 294 rfl rfl
theorem wg_238 : (Cond.selects "LitreFractions" ({ cls := "LitreFractions", name := "digit", desc := "(III)I" } : Jvm.MethodName) ({ cls := "LitreFractions", name := "digit", desc := "(III)I" } : Jvm.MethodName)) ∈ WG := WG_at 295 rfl rfl
theorem wg_239 : (Cond.code ({ cls := "LitreFractions", name := "digit", desc := "(III)I" } : Jvm.MethodName) prog_1_method_12_code (9 : Nat) (Option.some Jvm.ClassFile.FieldType.int)) ∈ WG := WG_at 296 rfl rfl
theorem wg_240 : (Cond.methodLink "LitreFractions" (123 : Nat) ({ cls := "LitreFractions", name := "digitBefore", desc := "(JI)I" } : Jvm.MethodName)) ∈ WG := WG_at 297 rfl rfl
theorem wg_241 : (Cond.static ({ cls := "LitreFractions", name := "digitBefore", desc := "(JI)I" } : Jvm.MethodName)) ∈ WG := WG_at 298 rfl rfl
theorem wg_242 : (Cond.code ({ cls := "LitreFractions", name := "digitBefore", desc := "(JI)I" } : Jvm.MethodName) prog_1_method_29_code (6 : Nat) (Option.some Jvm.ClassFile.FieldType.int)) ∈ WG := WG_at 299 rfl rfl
theorem wg_243 : (Cond.constantLong "LitreFractions" (171 : Nat) (10 : Int64)) ∈ WG := WG_at 300 rfl rfl
theorem wg_244 : (Cond.methodLink "LitreFractions" (127 : Nat) ({ cls := "LitreFractions", name := "digitBehind", desc := "(JJI)I" } : Jvm.MethodName)) ∈ WG := WG_at 301 rfl rfl
theorem wg_245 : (Cond.static ({ cls := "LitreFractions", name := "digitBehind", desc := "(JJI)I" } : Jvm.MethodName)) ∈ WG := WG_at 302 rfl rfl
theorem wg_246 : (Cond.code ({ cls := "LitreFractions", name := "digitBehind", desc := "(JJI)I" } : Jvm.MethodName) prog_1_method_30_code (8 : Nat) (Option.some Jvm.ClassFile.FieldType.int)) ∈ WG := WG_at 303 rfl rfl
theorem wg_247 : (Cond.classLink "LitreFractions" (130 : Nat) "java/lang/IndexOutOfBoundsException") ∈ WG := WG_at 304 rfl rfl
theorem wg_248 : (Cond.instantiable "java/lang/IndexOutOfBoundsException" (6 : Nat)) ∈ WG := WG_at 305 rfl rfl
theorem wg_249 : (Cond.selects "java/lang/IndexOutOfBoundsException" ({ cls := "java/lang/Throwable", name := "fillInStackTrace", desc := "(I)Ljava/lang/Throwable;" } : Jvm.MethodName) ({ cls := "java/lang/Throwable", name := "fillInStackTrace", desc := "(I)Ljava/lang/Throwable;" } : Jvm.MethodName)) ∈ WG := WG_at 307 rfl rfl
theorem wg_250 : (Cond.lays "java/lang/IndexOutOfBoundsException" "java/lang/Throwable" "cause" "Ljava/lang/Throwable;") ∈ WG := WG_at 308 rfl rfl
theorem wg_251 : (Cond.lays "java/lang/IndexOutOfBoundsException" "java/lang/Throwable" "stackTrace" "[Ljava/lang/StackTraceElement;") ∈ WG := WG_at 309 rfl rfl
theorem wg_252 : (Cond.lays "java/lang/IndexOutOfBoundsException" "java/lang/Throwable" "suppressedExceptions" "Ljava/util/List;") ∈ WG := WG_at 310 rfl rfl
theorem wg_253 : (Cond.lays "java/lang/IndexOutOfBoundsException" "java/lang/Throwable" "detailMessage" "Ljava/lang/String;") ∈ WG := WG_at 311 rfl rfl
theorem wg_254 : (Cond.lays "java/lang/IndexOutOfBoundsException" "java/lang/Throwable" "backtrace" "Ljava/lang/Object;") ∈ WG := WG_at 312 rfl rfl
theorem wg_255 : (Cond.methodLink "LitreFractions" (134 : Nat) ({ cls := "java/lang/IndexOutOfBoundsException", name := "<init>", desc := "(Ljava/lang/String;)V" } : Jvm.MethodName)) ∈ WG := WG_at 314 rfl rfl
theorem wg_256 : (Cond.instanceMethod ({ cls := "java/lang/IndexOutOfBoundsException", name := "<init>", desc := "(Ljava/lang/String;)V" } : Jvm.MethodName)) ∈ WG := WG_at 315 rfl rfl
theorem wg_257 : (Cond.code ({ cls := "java/lang/IndexOutOfBoundsException", name := "<init>", desc := "(Ljava/lang/String;)V" } : Jvm.MethodName) prog_7_method_2_code (2 : Nat) (Option.none : Option Jvm.ClassFile.FieldType)) ∈ WG := WG_at 316 rfl rfl
theorem wg_258 : (Cond.methodLink "java/lang/IndexOutOfBoundsException" (7 : Nat) ({ cls := "java/lang/RuntimeException", name := "<init>", desc := "(Ljava/lang/String;)V" } : Jvm.MethodName)) ∈ WG := WG_at 317 rfl rfl
theorem wg_259 : (Cond.lays "java/lang/IndexOutOfBoundsException" "java/lang/Throwable" "depth" "I") ∈ WG := WG_at 318 rfl rfl
theorem wg_260 : (Cond.classLink "LitreFractionsLaw" (26 : Nat) "LitreFractionsModel") ∈ WG := WG_at 320 rfl rfl
theorem wg_261 : (Cond.instantiable "LitreFractionsModel" (11 : Nat)) ∈ WG := WG_at 321 rfl rfl
theorem wg_262 : (Cond.methodLink "LitreFractionsLaw" (28 : Nat) ({ cls := "LitreFractionsModel", name := "<init>", desc := "()V" } : Jvm.MethodName)) ∈ WG := WG_at 322 rfl rfl
theorem wg_263 : (Cond.instanceMethod ({ cls := "LitreFractionsModel", name := "<init>", desc := "()V" } : Jvm.MethodName)) ∈ WG := WG_at 323 rfl rfl
theorem wg_264 : (Cond.code ({ cls := "LitreFractionsModel", name := "<init>", desc := "()V" } : Jvm.MethodName) prog_4_method_1_code (1 : Nat) (Option.none : Option Jvm.ClassFile.FieldType)) ∈ WG := WG_at 324 rfl rfl
theorem wg_265 : (Cond.methodLink "LitreFractionsModel" (1 : Nat) ({ cls := "java/lang/Object", name := "<init>", desc := "()V" } : Jvm.MethodName)) ∈ WG := WG_at 325 rfl rfl
theorem wg_266 : (Cond.fieldLink "LitreFractionsModel" (35 : Nat) "LitreFractionsModel" "code" "I") ∈ WG := WG_at 326 rfl rfl
theorem wg_267 : (Cond.fieldLink "LitreFractionsModel" (39 : Nat) "LitreFractionsModel" "amounts" "I") ∈ WG := WG_at 327 rfl rfl
theorem wg_268 : (Cond.fieldLink "LitreFractionsModel" (7 : Nat) "LitreFractionsModel" "up" "[J") ∈ WG := WG_at 328 rfl rfl
theorem wg_269 : (Cond.fieldLink "LitreFractionsModel" (13 : Nat) "LitreFractionsModel" "down" "[J") ∈ WG := WG_at 329 rfl rfl
theorem wg_270 : (Cond.fieldLink "LitreFractionsModel" (16 : Nat) "LitreFractionsModel" "units" "[I") ∈ WG := WG_at 330 rfl rfl
theorem wg_271 : (Cond.fieldLink "LitreFractionsModel" (20 : Nat) "LitreFractionsModel" "rows" "[I") ∈ WG := WG_at 331 rfl rfl
theorem wg_272 : (Cond.fieldLink "LitreFractionsModel" (23 : Nat) "LitreFractionsModel" "xs" "[J") ∈ WG := WG_at 332 rfl rfl
theorem wg_273 : (Cond.fieldLink "LitreFractionsModel" (26 : Nat) "LitreFractionsModel" "ys" "[J") ∈ WG := WG_at 333 rfl rfl
theorem wg_274 : (Cond.fieldLink "LitreFractionsModel" (29 : Nat) "LitreFractionsModel" "belows" "[J") ∈ WG := WG_at 334 rfl rfl
theorem wg_275 : (Cond.fieldLink "LitreFractionsModel" (84 : Nat) "LitreFractionsModel" "weights" "I") ∈ WG := WG_at 335 rfl rfl
theorem wg_276 : (Cond.fieldLink "LitreFractionsModel" (32 : Nat) "LitreFractionsModel" "weight" "[J") ∈ WG := WG_at 336 rfl rfl
theorem wg_277 : (Cond.lays "LitreFractionsModel" "LitreFractionsModel" "code" "I") ∈ WG := WG_at 337 rfl rfl
theorem wg_278 : (Cond.lays "LitreFractionsModel" "LitreFractionsModel" "amounts" "I") ∈ WG := WG_at 339 rfl rfl
theorem wg_279 : (Cond.laysFinal "LitreFractionsModel" "LitreFractionsModel" "up" "[J") ∈ WG := WG_at 341 rfl rfl
theorem wg_280 : (Cond.laysFinal "LitreFractionsModel" "LitreFractionsModel" "down" "[J") ∈ WG := WG_at 343 rfl rfl
theorem wg_281 : (Cond.laysFinal "LitreFractionsModel" "LitreFractionsModel" "units" "[I") ∈ WG := WG_at 345 rfl rfl
theorem wg_282 : (Cond.laysFinal "LitreFractionsModel" "LitreFractionsModel" "rows" "[I") ∈ WG := WG_at 347 rfl rfl
theorem wg_283 : (Cond.laysFinal "LitreFractionsModel" "LitreFractionsModel" "xs" "[J") ∈ WG := WG_at 349 rfl rfl
theorem wg_284 : (Cond.laysFinal "LitreFractionsModel" "LitreFractionsModel" "ys" "[J") ∈ WG := WG_at 351 rfl rfl
theorem wg_285 : (Cond.laysFinal "LitreFractionsModel" "LitreFractionsModel" "belows" "[J") ∈ WG := WG_at 353 rfl rfl
theorem wg_286 : (Cond.lays "LitreFractionsModel" "LitreFractionsModel" "weights" "I") ∈ WG := WG_at 355 rfl rfl
theorem wg_287 : (Cond.laysFinal "LitreFractionsModel" "LitreFractionsModel" "weight" "[J") ∈ WG := WG_at 357 rfl rfl
theorem wg_288 : (Cond.methodLink "LitreFractionsLaw" (37 : Nat) ({ cls := "LitreFractionsModel", name := "thrown", desc := "()I" } : Jvm.MethodName)) ∈ WG := WG_at 360 rfl rfl
theorem wg_289 : (Cond.instanceMethod ({ cls := "LitreFractionsModel", name := "thrown", desc := "()I" } : Jvm.MethodName)) ∈ WG := WG_at 361 rfl rfl
theorem wg_290 : (Cond.selects "LitreFractionsModel" ({ cls := "LitreFractionsModel", name := "thrown", desc := "()I" } : Jvm.MethodName) ({ cls := "LitreFractionsModel", name := "thrown", desc := "()I" } : Jvm.MethodName)) ∈ WG := WG_at 362 rfl rfl
theorem wg_291 : (Cond.code ({ cls := "LitreFractionsModel", name := "thrown", desc := "()I" } : Jvm.MethodName) prog_4_method_2_code (1 : Nat) (Option.some Jvm.ClassFile.FieldType.int)) ∈ WG := WG_at 363 rfl rfl
theorem wg_292 : (Cond.methodLink "LitreFractionsLaw" (36 : Nat) ({ cls := "LitreFractionsModel", name := "value", desc := "(JJI)I" } : Jvm.MethodName)) ∈ WG := WG_at 364 rfl rfl
theorem wg_293 : (Cond.instanceMethod ({ cls := "LitreFractionsModel", name := "value", desc := "(JJI)I" } : Jvm.MethodName)) ∈ WG := WG_at 365 rfl rfl
theorem wg_294 : (Cond.selects "LitreFractionsModel" ({ cls := "LitreFractionsModel", name := "value", desc := "(JJI)I" } : Jvm.MethodName) ({ cls := "LitreFractionsModel", name := "value", desc := "(JJI)I" } : Jvm.MethodName)) ∈ WG := WG_at 366 rfl rfl
theorem wg_295 : (Cond.code ({ cls := "LitreFractionsModel", name := "value", desc := "(JJI)I" } : Jvm.MethodName) prog_4_method_6_code (6 : Nat) (Option.some Jvm.ClassFile.FieldType.int)) ∈ WG := WG_at 367 rfl rfl
theorem wg_296 : (Cond.constantLong "LitreFractionsModel" (50 : Nat) (-1000000000000000000 : Int64)) ∈ WG := WG_at 368 rfl rfl
theorem wg_297 : (Cond.constantLong "LitreFractionsModel" (52 : Nat) (1000000000000000000 : Int64)) ∈ WG := WG_at 369 rfl rfl
theorem wg_298 : (Cond.methodLink "LitreFractionsModel" (54 : Nat) ({ cls := "LitreFractionsModel", name := "make", desc := "(JJI)I" } : Jvm.MethodName)) ∈ WG := WG_at 370 rfl rfl
theorem wg_299 : (Cond.instanceMethod ({ cls := "LitreFractionsModel", name := "make", desc := "(JJI)I" } : Jvm.MethodName)) ∈ WG := WG_at 372 rfl rfl
theorem wg_300 : (Cond.code ({ cls := "LitreFractionsModel", name := "make", desc := "(JJI)I" } : Jvm.MethodName) prog_4_method_5_code (12 : Nat) (Option.some Jvm.ClassFile.FieldType.int)) ∈ WG := WG_at 373 rfl rfl
theorem wg_301 : (Cond.methodLink "LitreFractionsModel" (42 : Nat) ({ cls := "LitreFractionsModel", name := "common", desc := "(JJ)J" } : Jvm.MethodName)) ∈ WG := WG_at 374 rfl rfl
theorem wg_302 : (Cond.static ({ cls := "LitreFractionsModel", name := "common", desc := "(JJ)J" } : Jvm.MethodName)) ∈ WG := WG_at 375 rfl rfl
theorem wg_303 : (Cond.code ({ cls := "LitreFractionsModel", name := "common", desc := "(JJ)J" } : Jvm.MethodName) prog_4_method_4_code (10 : Nat) (Option.some Jvm.ClassFile.FieldType.long)) ∈ WG := WG_at 376 rfl rfl
theorem wg_304 : (Cond.constantLong "LitreFractionsModel" (46 : Nat) (2147483647 : Int64)) ∈ WG := WG_at 377 rfl rfl
theorem wg_305 : (Cond.constantLong "LitreFractionsModel" (48 : Nat) (-2147483647 : Int64)) ∈ WG := WG_at 378 rfl rfl
theorem wg_306 : (Cond.methodLink "LitreFractionsLaw" (44 : Nat) ({ cls := "LitreFractionsModel", name := "add", desc := "(II)I" } : Jvm.MethodName)) ∈ WG := WG_at 379 rfl rfl
theorem wg_307 : (Cond.instanceMethod ({ cls := "LitreFractionsModel", name := "add", desc := "(II)I" } : Jvm.MethodName)) ∈ WG := WG_at 380 rfl rfl
theorem wg_308 : (Cond.selects "LitreFractionsModel" ({ cls := "LitreFractionsModel", name := "add", desc := "(II)I" } : Jvm.MethodName) ({ cls := "LitreFractionsModel", name := "add", desc := "(II)I" } : Jvm.MethodName)) ∈ WG := WG_at 381 rfl rfl
theorem wg_309 : (Cond.code ({ cls := "LitreFractionsModel", name := "add", desc := "(II)I" } : Jvm.MethodName) prog_4_method_7_code (3 : Nat) (Option.some Jvm.ClassFile.FieldType.int)) ∈ WG := WG_at 382 rfl rfl
theorem wg_310 : (Cond.methodLink "LitreFractionsModel" (58 : Nat) ({ cls := "LitreFractionsModel", name := "isAmount", desc := "(I)Z" } : Jvm.MethodName)) ∈ WG := WG_at 383 rfl rfl
theorem wg_311 : (Cond.instanceMethod ({ cls := "LitreFractionsModel", name := "isAmount", desc := "(I)Z" } : Jvm.MethodName)) ∈ WG := WG_at 385 rfl rfl
theorem wg_312 : (Cond.code ({ cls := "LitreFractionsModel", name := "isAmount", desc := "(I)Z" } : Jvm.MethodName) prog_4_method_3_code (2 : Nat) (Option.some Jvm.ClassFile.FieldType.boolean)) ∈ WG := WG_at 386 rfl rfl
theorem wg_313 : (Cond.methodLink "LitreFractionsLaw" (48 : Nat) ({ cls := "LitreFractionsModel", name := "times", desc := "(II)I" } : Jvm.MethodName)) ∈ WG := WG_at 387 rfl rfl
theorem wg_314 : (Cond.instanceMethod ({ cls := "LitreFractionsModel", name := "times", desc := "(II)I" } : Jvm.MethodName)) ∈ WG := WG_at 388 rfl rfl
theorem wg_315 : (Cond.selects "LitreFractionsModel" ({ cls := "LitreFractionsModel", name := "times", desc := "(II)I" } : Jvm.MethodName) ({ cls := "LitreFractionsModel", name := "times", desc := "(II)I" } : Jvm.MethodName)) ∈ WG := WG_at 389 rfl rfl
theorem wg_316 : (Cond.code ({ cls := "LitreFractionsModel", name := "times", desc := "(II)I" } : Jvm.MethodName) prog_4_method_9_code (6 : Nat) (Option.some Jvm.ClassFile.FieldType.int)) ∈ WG := WG_at 390 rfl rfl
theorem wg_317 : (Cond.methodLink "LitreFractionsModel" (62 : Nat) ({ cls := "LitreFractionsModel", name := "areTwo", desc := "(IIII)Z" } : Jvm.MethodName)) ∈ WG := WG_at 391 rfl rfl
theorem wg_318 : (Cond.static ({ cls := "LitreFractionsModel", name := "areTwo", desc := "(IIII)Z" } : Jvm.MethodName)) ∈ WG := WG_at 392 rfl rfl
theorem wg_319 : (Cond.code ({ cls := "LitreFractionsModel", name := "areTwo", desc := "(IIII)Z" } : Jvm.MethodName) prog_4_method_8_code (4 : Nat) (Option.some Jvm.ClassFile.FieldType.boolean)) ∈ WG := WG_at 393 rfl rfl
theorem wg_320 : (Cond.methodLink "LitreFractionsLaw" (52 : Nat) ({ cls := "LitreFractionsModel", name := "over", desc := "(II)I" } : Jvm.MethodName)) ∈ WG := WG_at 394 rfl rfl
theorem wg_321 : (Cond.instanceMethod ({ cls := "LitreFractionsModel", name := "over", desc := "(II)I" } : Jvm.MethodName)) ∈ WG := WG_at 395 rfl rfl
theorem wg_322 : (Cond.selects "LitreFractionsModel" ({ cls := "LitreFractionsModel", name := "over", desc := "(II)I" } : Jvm.MethodName) ({ cls := "LitreFractionsModel", name := "over", desc := "(II)I" } : Jvm.MethodName)) ∈ WG := WG_at 396 rfl rfl
theorem wg_323 : (Cond.code ({ cls := "LitreFractionsModel", name := "over", desc := "(II)I" } : Jvm.MethodName) prog_4_method_10_code (6 : Nat) (Option.some Jvm.ClassFile.FieldType.int)) ∈ WG := WG_at 397 rfl rfl
theorem wg_324 : (Cond.methodLink "LitreFractionsLaw" (57 : Nat) ({ cls := "LitreFractionsModel", name := "round", desc := "(IIJ)I" } : Jvm.MethodName)) ∈ WG := WG_at 398 rfl rfl
theorem wg_325 : (Cond.instanceMethod ({ cls := "LitreFractionsModel", name := "round", desc := "(IIJ)I" } : Jvm.MethodName)) ∈ WG := WG_at 399 rfl rfl
theorem wg_326 : (Cond.selects "LitreFractionsModel" ({ cls := "LitreFractionsModel", name := "round", desc := "(IIJ)I" } : Jvm.MethodName) ({ cls := "LitreFractionsModel", name := "round", desc := "(IIJ)I" } : Jvm.MethodName)) ∈ WG := WG_at 400 rfl rfl
theorem wg_327 : (Cond.code ({ cls := "LitreFractionsModel", name := "round", desc := "(IIJ)I" } : Jvm.MethodName) prog_4_method_12_code (11 : Nat) (Option.some Jvm.ClassFile.FieldType.int)) ∈ WG := WG_at 401 rfl rfl
theorem wg_328 : (Cond.constantLong "LitreFractionsModel" (68 : Nat) (1000000000 : Int64)) ∈ WG := WG_at 402 rfl rfl
theorem wg_329 : (Cond.methodLink "LitreFractionsModel" (70 : Nat) ({ cls := "LitreFractionsModel", name := "isUpper", desc := "(IJJJ)Z" } : Jvm.MethodName)) ∈ WG := WG_at 403 rfl rfl
theorem wg_330 : (Cond.static ({ cls := "LitreFractionsModel", name := "isUpper", desc := "(IJJJ)Z" } : Jvm.MethodName)) ∈ WG := WG_at 404 rfl rfl
theorem wg_331 : (Cond.code ({ cls := "LitreFractionsModel", name := "isUpper", desc := "(IJJJ)Z" } : Jvm.MethodName) prog_4_method_11_code (8 : Nat) (Option.some Jvm.ClassFile.FieldType.boolean)) ∈ WG := WG_at 405 rfl rfl
theorem wg_332 : (Cond.constantLong "LitreFractionsModel" (66 : Nat) (2 : Int64)) ∈ WG := WG_at 406 rfl rfl
theorem wg_333 : (Cond.methodLink "LitreFractionsLaw" (61 : Nat) ({ cls := "LitreFractionsModel", name := "order", desc := "(II)I" } : Jvm.MethodName)) ∈ WG := WG_at 407 rfl rfl
theorem wg_334 : (Cond.instanceMethod ({ cls := "LitreFractionsModel", name := "order", desc := "(II)I" } : Jvm.MethodName)) ∈ WG := WG_at 408 rfl rfl
theorem wg_335 : (Cond.selects "LitreFractionsModel" ({ cls := "LitreFractionsModel", name := "order", desc := "(II)I" } : Jvm.MethodName) ({ cls := "LitreFractionsModel", name := "order", desc := "(II)I" } : Jvm.MethodName)) ∈ WG := WG_at 409 rfl rfl
theorem wg_336 : (Cond.code ({ cls := "LitreFractionsModel", name := "order", desc := "(II)I" } : Jvm.MethodName) prog_4_method_13_code (5 : Nat) (Option.some Jvm.ClassFile.FieldType.int)) ∈ WG := WG_at 410 rfl rfl
theorem wg_337 : (Cond.methodLink "LitreFractionsLaw" (66 : Nat) ({ cls := "LitreFractionsModel", name := "row", desc := "(IJJJ)Z" } : Jvm.MethodName)) ∈ WG := WG_at 411 rfl rfl
theorem wg_338 : (Cond.instanceMethod ({ cls := "LitreFractionsModel", name := "row", desc := "(IJJJ)Z" } : Jvm.MethodName)) ∈ WG := WG_at 412 rfl rfl
theorem wg_339 : (Cond.selects "LitreFractionsModel" ({ cls := "LitreFractionsModel", name := "row", desc := "(IJJJ)Z" } : Jvm.MethodName) ({ cls := "LitreFractionsModel", name := "row", desc := "(IJJJ)Z" } : Jvm.MethodName)) ∈ WG := WG_at 413 rfl rfl
theorem wg_340 : (Cond.code ({ cls := "LitreFractionsModel", name := "row", desc := "(IJJJ)Z" } : Jvm.MethodName) prog_4_method_15_code (9 : Nat) (Option.some Jvm.ClassFile.FieldType.boolean)) ∈ WG := WG_at 414 rfl rfl
theorem wg_341 : (Cond.constantLong "LitreFractionsModel" (78 : Nat) (100 : Int64)) ∈ WG := WG_at 415 rfl rfl
theorem wg_342 : (Cond.methodLink "LitreFractionsModel" (80 : Nat) ({ cls := "LitreFractionsModel", name := "isNear", desc := "(J)Z" } : Jvm.MethodName)) ∈ WG := WG_at 416 rfl rfl
theorem wg_343 : (Cond.static ({ cls := "LitreFractionsModel", name := "isNear", desc := "(J)Z" } : Jvm.MethodName)) ∈ WG := WG_at 417 rfl rfl
theorem wg_344 : (Cond.code ({ cls := "LitreFractionsModel", name := "isNear", desc := "(J)Z" } : Jvm.MethodName) prog_4_method_14_code (2 : Nat) (Option.some Jvm.ClassFile.FieldType.boolean)) ∈ WG := WG_at 418 rfl rfl
theorem wg_345 : (Cond.constantLong "LitreFractionsModel" (74 : Nat) (-10000 : Int64)) ∈ WG := WG_at 419 rfl rfl
theorem wg_346 : (Cond.constantLong "LitreFractionsModel" (76 : Nat) (10000 : Int64)) ∈ WG := WG_at 420 rfl rfl
theorem wg_347 : (Cond.methodLink "LitreFractionsLaw" (70 : Nat) ({ cls := "LitreFractionsModel", name := "join", desc := "(II)I" } : Jvm.MethodName)) ∈ WG := WG_at 421 rfl rfl
theorem wg_348 : (Cond.instanceMethod ({ cls := "LitreFractionsModel", name := "join", desc := "(II)I" } : Jvm.MethodName)) ∈ WG := WG_at 422 rfl rfl
theorem wg_349 : (Cond.selects "LitreFractionsModel" ({ cls := "LitreFractionsModel", name := "join", desc := "(II)I" } : Jvm.MethodName) ({ cls := "LitreFractionsModel", name := "join", desc := "(II)I" } : Jvm.MethodName)) ∈ WG := WG_at 423 rfl rfl
theorem wg_350 : (Cond.code ({ cls := "LitreFractionsModel", name := "join", desc := "(II)I" } : Jvm.MethodName) prog_4_method_16_code (12 : Nat) (Option.some Jvm.ClassFile.FieldType.int)) ∈ WG := WG_at 424 rfl rfl
theorem wg_351 : (Cond.methodLink "LitreFractionsLaw" (75 : Nat) ({ cls := "LitreFractionsModel", name := "weight", desc := "(J)Z" } : Jvm.MethodName)) ∈ WG := WG_at 425 rfl rfl
theorem wg_352 : (Cond.instanceMethod ({ cls := "LitreFractionsModel", name := "weight", desc := "(J)Z" } : Jvm.MethodName)) ∈ WG := WG_at 426 rfl rfl
theorem wg_353 : (Cond.selects "LitreFractionsModel" ({ cls := "LitreFractionsModel", name := "weight", desc := "(J)Z" } : Jvm.MethodName) ({ cls := "LitreFractionsModel", name := "weight", desc := "(J)Z" } : Jvm.MethodName)) ∈ WG := WG_at 427 rfl rfl
theorem wg_354 : (Cond.code ({ cls := "LitreFractionsModel", name := "weight", desc := "(J)Z" } : Jvm.MethodName) prog_4_method_17_code (3 : Nat) (Option.some Jvm.ClassFile.FieldType.boolean)) ∈ WG := WG_at 428 rfl rfl
theorem wg_355 : (Cond.constantLong "LitreFractionsModel" (87 : Nat) (1000000 : Int64)) ∈ WG := WG_at 429 rfl rfl
theorem wg_356 : (Cond.methodLink "LitreFractionsLaw" (79 : Nat) ({ cls := "LitreFractionsModel", name := "share", desc := "(II)I" } : Jvm.MethodName)) ∈ WG := WG_at 430 rfl rfl
theorem wg_357 : (Cond.instanceMethod ({ cls := "LitreFractionsModel", name := "share", desc := "(II)I" } : Jvm.MethodName)) ∈ WG := WG_at 431 rfl rfl
theorem wg_358 : (Cond.selects "LitreFractionsModel" ({ cls := "LitreFractionsModel", name := "share", desc := "(II)I" } : Jvm.MethodName) ({ cls := "LitreFractionsModel", name := "share", desc := "(II)I" } : Jvm.MethodName)) ∈ WG := WG_at 432 rfl rfl
theorem wg_359 : (Cond.code ({ cls := "LitreFractionsModel", name := "share", desc := "(II)I" } : Jvm.MethodName) prog_4_method_18_code (17 : Nat) (Option.some Jvm.ClassFile.FieldType.int)) ∈ WG := WG_at 433 rfl rfl
theorem wg_360 : (Cond.constantLong "LitreFractionsModel" (89 : Nat) (1000 : Int64)) ∈ WG := WG_at 434 rfl rfl
theorem wg_361 : (Cond.methodLink "LitreFractionsLaw" (83 : Nat) ({ cls := "LitreFractionsModel", name := "digit", desc := "(III)I" } : Jvm.MethodName)) ∈ WG := WG_at 435 rfl rfl
theorem wg_362 : (Cond.instanceMethod ({ cls := "LitreFractionsModel", name := "digit", desc := "(III)I" } : Jvm.MethodName)) ∈ WG := WG_at 436 rfl rfl
theorem wg_363 : (Cond.selects "LitreFractionsModel" ({ cls := "LitreFractionsModel", name := "digit", desc := "(III)I" } : Jvm.MethodName) ({ cls := "LitreFractionsModel", name := "digit", desc := "(III)I" } : Jvm.MethodName)) ∈ WG := WG_at 437 rfl rfl
theorem wg_364 : (Cond.code ({ cls := "LitreFractionsModel", name := "digit", desc := "(III)I" } : Jvm.MethodName) prog_4_method_19_code (11 : Nat) (Option.some Jvm.ClassFile.FieldType.int)) ∈ WG := WG_at 438 rfl rfl
theorem wg_365 : (Cond.constantLong "LitreFractionsModel" (91 : Nat) (9 : Int64)) ∈ WG := WG_at 439 rfl rfl
theorem wg_366 : (Cond.constantLong "LitreFractionsModel" (93 : Nat) (10 : Int64)) ∈ WG := WG_at 440 rfl rfl
theorem wg_367 : (Cond.methodLink "LitreFractionsLaw" (88 : Nat) ({ cls := "LitreFractionsModel", name := "told", desc := "(II)J" } : Jvm.MethodName)) ∈ WG := WG_at 441 rfl rfl
theorem wg_368 : (Cond.instanceMethod ({ cls := "LitreFractionsModel", name := "told", desc := "(II)J" } : Jvm.MethodName)) ∈ WG := WG_at 442 rfl rfl
theorem wg_369 : (Cond.selects "LitreFractionsModel" ({ cls := "LitreFractionsModel", name := "told", desc := "(II)J" } : Jvm.MethodName) ({ cls := "LitreFractionsModel", name := "told", desc := "(II)J" } : Jvm.MethodName)) ∈ WG := WG_at 443 rfl rfl
theorem wg_370 : (Cond.code ({ cls := "LitreFractionsModel", name := "told", desc := "(II)J" } : Jvm.MethodName) prog_4_method_20_code (3 : Nat) (Option.some Jvm.ClassFile.FieldType.long)) ∈ WG := WG_at 444 rfl rfl
theorem wg_371 : (Cond.constantLong "LitreFractionsModel" (95 : Nat) (-9 : Int64)) ∈ WG := WG_at 445 rfl rfl
theorem wg_372 : (Cond.methodLink "LitreFractionsLaw" (92 : Nat) ({ cls := "LitreFractionsModel", name := "clear", desc := "()V" } : Jvm.MethodName)) ∈ WG := WG_at 446 rfl rfl
theorem wg_373 : (Cond.instanceMethod ({ cls := "LitreFractionsModel", name := "clear", desc := "()V" } : Jvm.MethodName)) ∈ WG := WG_at 447 rfl rfl
theorem wg_374 : (Cond.selects "LitreFractionsModel" ({ cls := "LitreFractionsModel", name := "clear", desc := "()V" } : Jvm.MethodName) ({ cls := "LitreFractionsModel", name := "clear", desc := "()V" } : Jvm.MethodName)) ∈ WG := WG_at 448 rfl rfl
theorem wg_375 : (Cond.code ({ cls := "LitreFractionsModel", name := "clear", desc := "()V" } : Jvm.MethodName) prog_4_method_21_code (2 : Nat) (Option.none : Option Jvm.ClassFile.FieldType)) ∈ WG := WG_at 449 rfl rfl
theorem wg_376 : (Cond.constantLong "LitreFractionsLaw" (29 : Nat) (4294967295 : Int64)) ∈ WG := WG_at 450 rfl rfl
theorem in_T : ∀ w ∈ u_ws R_T F_T 4, w ∈ WG := show ∀ w ∈ [(Cond.laysFinal "LitreFractions$Table" "LitreFractions$Table" "xs" "[J"), (Cond.laysFinal "LitreFractions$Table" "LitreFractions$Table" "ys" "[J"), (Cond.lays "LitreFractions$Table" "LitreFractions$Table" "below" "J"), (Cond.lays "LitreFractions$Table" "LitreFractions$Table" "count" "I")], w ∈ WG from List.forall_mem_cons.mpr ⟨wg_40, List.forall_mem_cons.mpr ⟨wg_41, List.forall_mem_cons.mpr ⟨wg_42, List.forall_mem_cons.mpr ⟨wg_43, fun _ h => absurd h List.not_mem_nil⟩⟩⟩⟩
theorem in_X : ∀ w ∈ u_ws R_X F_X 7, w ∈ WG := show ∀ w ∈ [(Cond.laysFinal "LitreFractions" "LitreFractions" "aboves" "[J"), (Cond.laysFinal "LitreFractions" "LitreFractions" "belows" "[J"), (Cond.laysFinal "LitreFractions" "LitreFractions" "units" "[I"), (Cond.lays "LitreFractions" "LitreFractions" "amountCount" "I"), (Cond.laysFinal "LitreFractions" "LitreFractions" "weights" "[J"), (Cond.lays "LitreFractions" "LitreFractions" "weightCount" "I"), (Cond.laysFinal "LitreFractions" "LitreFractions" "tables" "[LLitreFractions$Table;")], w ∈ WG from List.forall_mem_cons.mpr ⟨wg_53, List.forall_mem_cons.mpr ⟨wg_54, List.forall_mem_cons.mpr ⟨wg_55, List.forall_mem_cons.mpr ⟨wg_56, List.forall_mem_cons.mpr ⟨wg_57, List.forall_mem_cons.mpr ⟨wg_58, List.forall_mem_cons.mpr ⟨wg_59, fun _ h => absurd h List.not_mem_nil⟩⟩⟩⟩⟩⟩⟩
theorem in_M : ∀ w ∈ u_ws R_M F_M 11, w ∈ WG := show ∀ w ∈ [(Cond.lays "LitreFractionsModel" "LitreFractionsModel" "code" "I"), (Cond.lays "LitreFractionsModel" "LitreFractionsModel" "amounts" "I"), (Cond.laysFinal "LitreFractionsModel" "LitreFractionsModel" "up" "[J"), (Cond.laysFinal "LitreFractionsModel" "LitreFractionsModel" "down" "[J"), (Cond.laysFinal "LitreFractionsModel" "LitreFractionsModel" "units" "[I"), (Cond.laysFinal "LitreFractionsModel" "LitreFractionsModel" "rows" "[I"), (Cond.laysFinal "LitreFractionsModel" "LitreFractionsModel" "xs" "[J"), (Cond.laysFinal "LitreFractionsModel" "LitreFractionsModel" "ys" "[J"), (Cond.laysFinal "LitreFractionsModel" "LitreFractionsModel" "belows" "[J"), (Cond.lays "LitreFractionsModel" "LitreFractionsModel" "weights" "I"), (Cond.laysFinal "LitreFractionsModel" "LitreFractionsModel" "weight" "[J")], w ∈ WG from List.forall_mem_cons.mpr ⟨wg_277, List.forall_mem_cons.mpr ⟨wg_278, List.forall_mem_cons.mpr ⟨wg_279, List.forall_mem_cons.mpr ⟨wg_280, List.forall_mem_cons.mpr ⟨wg_281, List.forall_mem_cons.mpr ⟨wg_282, List.forall_mem_cons.mpr ⟨wg_283, List.forall_mem_cons.mpr ⟨wg_284, List.forall_mem_cons.mpr ⟨wg_285, List.forall_mem_cons.mpr ⟨wg_286, List.forall_mem_cons.mpr ⟨wg_287, fun _ h => absurd h List.not_mem_nil⟩⟩⟩⟩⟩⟩⟩⟩⟩⟩⟩
abbrev c_X_init : ByteArray := prog_1_method_1_code
abbrev y_X_init : MethodName := ⟨"LitreFractions", "<init>", "()V"⟩
abbrev w_X_init : List Cond := .code y_X_init c_X_init 2 (Option.none : Option Jvm.ClassFile.FieldType) :: WG
abbrev c_T_init : ByteArray := prog_2_method_1_code
abbrev y_T_init : MethodName := ⟨"LitreFractions$Table", "<init>", "()V"⟩
abbrev w_T_init : List Cond := .code y_T_init c_T_init 1 (Option.none : Option Jvm.ClassFile.FieldType) :: WG
abbrev c_X_add : ByteArray := prog_1_method_3_code
abbrev y_X_add : MethodName := ⟨"LitreFractions", "add", "(II)I"⟩
abbrev w_X_add : List Cond := .code y_X_add c_X_add 3 (Option.some Jvm.ClassFile.FieldType.int) :: WG
abbrev c_X_isAmount : ByteArray := prog_1_method_15_code
abbrev y_X_isAmount : MethodName := ⟨"LitreFractions", "isAmount", "(I)Z"⟩
abbrev w_X_isAmount : List Cond := .code y_X_isAmount c_X_isAmount 2 (Option.some Jvm.ClassFile.FieldType.boolean) :: WG
abbrev c_X_keep : ByteArray := prog_1_method_18_code
abbrev y_X_keep : MethodName := ⟨"LitreFractions", "keep", "(JJI)I"⟩
abbrev w_X_keep : List Cond := .code y_X_keep c_X_keep 14 (Option.some Jvm.ClassFile.FieldType.int) :: WG
abbrev c_X_commonDivisor : ByteArray := prog_1_method_19_code
abbrev y_X_commonDivisor : MethodName := ⟨"LitreFractions", "commonDivisor", "(JJ)J"⟩
abbrev w_X_commonDivisor : List Cond := .code y_X_commonDivisor c_X_commonDivisor 11 (Option.some Jvm.ClassFile.FieldType.long) :: WG
abbrev c_JM_abs : ByteArray := prog_9_method_61_code
abbrev y_JM_abs : MethodName := ⟨"java/lang/Math", "abs", "(J)J"⟩
abbrev w_JM_abs : List Cond := .code y_JM_abs c_JM_abs 2 (Option.some Jvm.ClassFile.FieldType.long) :: WG
abbrev c_X_times : ByteArray := prog_1_method_4_code
abbrev y_X_times : MethodName := ⟨"LitreFractions", "times", "(II)I"⟩
abbrev w_X_times : List Cond := .code y_X_times c_X_times 4 (Option.some Jvm.ClassFile.FieldType.int) :: WG
abbrev c_X_unitOfProduct : ByteArray := prog_1_method_22_code
abbrev y_X_unitOfProduct : MethodName := ⟨"LitreFractions", "unitOfProduct", "(II)I"⟩
abbrev w_X_unitOfProduct : List Cond := .code y_X_unitOfProduct c_X_unitOfProduct 2 (Option.some Jvm.ClassFile.FieldType.int) :: WG
abbrev c_X_isShareOf : ByteArray := prog_1_method_24_code
abbrev y_X_isShareOf : MethodName := ⟨"LitreFractions", "isShareOf", "(II)Z"⟩
abbrev w_X_isShareOf : List Cond := .code y_X_isShareOf c_X_isShareOf 2 (Option.some Jvm.ClassFile.FieldType.boolean) :: WG
abbrev c_X_round : ByteArray := prog_1_method_6_code
abbrev y_X_round : MethodName := ⟨"LitreFractions", "round", "(IIJ)I"⟩
abbrev w_X_round : List Cond := .code y_X_round c_X_round 13 (Option.some Jvm.ClassFile.FieldType.int) :: WG
abbrev c_X_quotientDown : ByteArray := prog_1_method_20_code
abbrev y_X_quotientDown : MethodName := ⟨"LitreFractions", "quotientDown", "(JJ)J"⟩
abbrev w_X_quotientDown : List Cond := .code y_X_quotientDown c_X_quotientDown 4 (Option.some Jvm.ClassFile.FieldType.long) :: WG
abbrev c_JM_floorDiv : ByteArray := prog_9_method_49_code
abbrev y_JM_floorDiv : MethodName := ⟨"java/lang/Math", "floorDiv", "(JJ)J"⟩
abbrev w_JM_floorDiv : List Cond := .code y_JM_floorDiv c_JM_floorDiv 6 (Option.some Jvm.ClassFile.FieldType.long) :: WG
abbrev c_X_restOf : ByteArray := prog_1_method_21_code
abbrev y_X_restOf : MethodName := ⟨"LitreFractions", "restOf", "(JJ)J"⟩
abbrev w_X_restOf : List Cond := .code y_X_restOf c_X_restOf 4 (Option.some Jvm.ClassFile.FieldType.long) :: WG
abbrev c_JM_floorMod : ByteArray := prog_9_method_52_code
abbrev y_JM_floorMod : MethodName := ⟨"java/lang/Math", "floorMod", "(JJ)J"⟩
abbrev w_JM_floorMod : List Cond := .code y_JM_floorMod c_JM_floorMod 6 (Option.some Jvm.ClassFile.FieldType.long) :: WG
abbrev c_X_goesUp : ByteArray := prog_1_method_25_code
abbrev y_X_goesUp : MethodName := ⟨"LitreFractions", "goesUp", "(IJJJ)Z"⟩
abbrev w_X_goesUp : List Cond := .code y_X_goesUp c_X_goesUp 8 (Option.some Jvm.ClassFile.FieldType.boolean) :: WG
abbrev c_JL_compare : ByteArray := prog_8_method_42_code
abbrev y_JL_compare : MethodName := ⟨"java/lang/Long", "compare", "(JJ)I"⟩
abbrev w_JL_compare : List Cond := .code y_JL_compare c_JL_compare 4 (Option.some Jvm.ClassFile.FieldType.int) :: WG
abbrev c_X_order : ByteArray := prog_1_method_7_code
abbrev y_X_order : MethodName := ⟨"LitreFractions", "order", "(II)I"⟩
abbrev w_X_order : List Cond := .code y_X_order c_X_order 7 (Option.some Jvm.ClassFile.FieldType.int) :: WG
abbrev c_X_row : ByteArray := prog_1_method_8_code
abbrev y_X_row : MethodName := ⟨"LitreFractions", "row", "(IJJJ)Z"⟩
abbrev w_X_row : List Cond := .code y_X_row c_X_row 9 (Option.some Jvm.ClassFile.FieldType.boolean) :: WG
abbrev c_X_tableAt : ByteArray := prog_1_method_16_code
abbrev y_X_tableAt : MethodName := ⟨"LitreFractions", "tableAt", "(I)LLitreFractions$Table;"⟩
abbrev w_X_tableAt : List Cond := .code y_X_tableAt c_X_tableAt 2 (Option.some (Jvm.ClassFile.FieldType.object "LitreFractions$Table")) :: WG
abbrev c_T_takes : ByteArray := prog_2_method_2_code
abbrev y_T_takes : MethodName := ⟨"LitreFractions$Table", "takes", "(JJJ)Z"⟩
abbrev w_T_takes : List Cond := .code y_T_takes c_T_takes 7 (Option.some Jvm.ClassFile.FieldType.boolean) :: WG
abbrev c_T_isInside : ByteArray := prog_2_method_3_code
abbrev y_T_isInside : MethodName := ⟨"LitreFractions$Table", "isInside", "(J)Z"⟩
abbrev w_T_isInside : List Cond := .code y_T_isInside c_T_isInside 2 (Option.some Jvm.ClassFile.FieldType.boolean) :: WG
abbrev c_T_append : ByteArray := prog_2_method_4_code
abbrev y_T_append : MethodName := ⟨"LitreFractions$Table", "append", "(JJJ)V"⟩
abbrev w_T_append : List Cond := .code y_T_append c_T_append 7 (Option.none : Option Jvm.ClassFile.FieldType) :: WG
abbrev c_X_join : ByteArray := prog_1_method_9_code
abbrev y_X_join : MethodName := ⟨"LitreFractions", "join", "(II)I"⟩
abbrev w_X_join : List Cond := .code y_X_join c_X_join 5 (Option.some Jvm.ClassFile.FieldType.int) :: WG
abbrev c_T_firstNotBefore : ByteArray := prog_2_method_5_code
abbrev y_T_firstNotBefore : MethodName := ⟨"LitreFractions$Table", "firstNotBefore", "(JJ)I"⟩
abbrev w_T_firstNotBefore : List Cond := .code y_T_firstNotBefore c_T_firstNotBefore 8 (Option.some Jvm.ClassFile.FieldType.int) :: WG
abbrev c_X_keepBetween : ByteArray := prog_1_method_26_code
abbrev y_X_keepBetween : MethodName := ⟨"LitreFractions", "keepBetween", "(LLitreFractions$Table;II)I"⟩
abbrev w_X_keepBetween : List Cond := .code y_X_keepBetween c_X_keepBetween 12 (Option.some Jvm.ClassFile.FieldType.int) :: WG
abbrev c_X_weight : ByteArray := prog_1_method_10_code
abbrev y_X_weight : MethodName := ⟨"LitreFractions", "weight", "(J)Z"⟩
abbrev w_X_weight : List Cond := .code y_X_weight c_X_weight 3 (Option.some Jvm.ClassFile.FieldType.boolean) :: WG
abbrev c_X_share : ByteArray := prog_1_method_11_code
abbrev y_X_share : MethodName := ⟨"LitreFractions", "share", "(II)I"⟩
abbrev w_X_share : List Cond := .code y_X_share c_X_share 11 (Option.some Jvm.ClassFile.FieldType.int) :: WG
abbrev c_X_sumOfWeights : ByteArray := prog_1_method_27_code
abbrev y_X_sumOfWeights : MethodName := ⟨"LitreFractions", "sumOfWeights", "()J"⟩
abbrev w_X_sumOfWeights : List Cond := .code y_X_sumOfWeights c_X_sumOfWeights 4 (Option.some Jvm.ClassFile.FieldType.long) :: WG
abbrev c_X_thousandthsOf : ByteArray := prog_1_method_28_code
abbrev y_X_thousandthsOf : MethodName := ⟨"LitreFractions", "thousandthsOf", "(IJJ)J"⟩
abbrev w_X_thousandthsOf : List Cond := .code y_X_thousandthsOf c_X_thousandthsOf 18 (Option.some Jvm.ClassFile.FieldType.long) :: WG
abbrev c_X_told : ByteArray := prog_1_method_13_code
abbrev y_X_told : MethodName := ⟨"LitreFractions", "told", "(II)J"⟩
abbrev w_X_told : List Cond := .code y_X_told c_X_told 4 (Option.some Jvm.ClassFile.FieldType.long) :: WG
abbrev c_X_clear : ByteArray := prog_1_method_14_code
abbrev y_X_clear : MethodName := ⟨"LitreFractions", "clear", "()V"⟩
abbrev w_X_clear : List Cond := .code y_X_clear c_X_clear 3 (Option.none : Option Jvm.ClassFile.FieldType) :: WG
abbrev c_L_value : ByteArray := method_3_code
abbrev y_L_value : MethodName := ⟨"LitreFractionsLaw", "value", "(LLitreFractions;JJI[J)I"⟩
abbrev c_X_value : ByteArray := prog_1_method_2_code
abbrev y_X_value : MethodName := ⟨"LitreFractions", "value", "(JJI)I"⟩
abbrev w_X_value : List Cond := .code y_X_value c_X_value 6 (Option.some Jvm.ClassFile.FieldType.int) :: WG
abbrev c_X_isTooFar : ByteArray := prog_1_method_17_code
abbrev y_X_isTooFar : MethodName := ⟨"LitreFractions", "isTooFar", "(J)Z"⟩
abbrev w_X_isTooFar : List Cond := .code y_X_isTooFar c_X_isTooFar 2 (Option.some Jvm.ClassFile.FieldType.boolean) :: WG
abbrev c_L_over : ByteArray := method_4_code
abbrev y_L_over : MethodName := ⟨"LitreFractionsLaw", "over", "(LLitreFractions;II[J)I"⟩
abbrev c_X_over : ByteArray := prog_1_method_5_code
abbrev y_X_over : MethodName := ⟨"LitreFractions", "over", "(II)I"⟩
abbrev w_X_over : List Cond := .code y_X_over c_X_over 4 (Option.some Jvm.ClassFile.FieldType.int) :: WG
abbrev c_X_unitOfQuotient : ByteArray := prog_1_method_23_code
abbrev y_X_unitOfQuotient : MethodName := ⟨"LitreFractions", "unitOfQuotient", "(II)I"⟩
abbrev w_X_unitOfQuotient : List Cond := .code y_X_unitOfQuotient c_X_unitOfQuotient 2 (Option.some Jvm.ClassFile.FieldType.int) :: WG
abbrev c_L_digit : ByteArray := method_5_code
abbrev y_L_digit : MethodName := ⟨"LitreFractionsLaw", "digit", "(LLitreFractions;III[J)I"⟩
abbrev c_X_digit : ByteArray := prog_1_method_12_code
abbrev y_X_digit : MethodName := ⟨"LitreFractions", "digit", "(III)I"⟩
abbrev w_X_digit : List Cond := .code y_X_digit c_X_digit 9 (Option.some Jvm.ClassFile.FieldType.int) :: WG
abbrev c_X_digitBefore : ByteArray := prog_1_method_29_code
abbrev y_X_digitBefore : MethodName := ⟨"LitreFractions", "digitBefore", "(JI)I"⟩
abbrev w_X_digitBefore : List Cond := .code y_X_digitBefore c_X_digitBefore 6 (Option.some Jvm.ClassFile.FieldType.int) :: WG
abbrev c_X_digitBehind : ByteArray := prog_1_method_30_code
abbrev y_X_digitBehind : MethodName := ⟨"LitreFractions", "digitBehind", "(JJI)I"⟩
abbrev w_X_digitBehind : List Cond := .code y_X_digitBehind c_X_digitBehind 8 (Option.some Jvm.ClassFile.FieldType.int) :: WG
abbrev c_M_init : ByteArray := prog_4_method_1_code
abbrev y_M_init : MethodName := ⟨"LitreFractionsModel", "<init>", "()V"⟩
abbrev w_M_init : List Cond := .code y_M_init c_M_init 1 (Option.none : Option Jvm.ClassFile.FieldType) :: WG
abbrev c_M_thrown : ByteArray := prog_4_method_2_code
abbrev y_M_thrown : MethodName := ⟨"LitreFractionsModel", "thrown", "()I"⟩
abbrev w_M_thrown : List Cond := .code y_M_thrown c_M_thrown 1 (Option.some Jvm.ClassFile.FieldType.int) :: WG
abbrev c_M_value : ByteArray := prog_4_method_6_code
abbrev y_M_value : MethodName := ⟨"LitreFractionsModel", "value", "(JJI)I"⟩
abbrev w_M_value : List Cond := .code y_M_value c_M_value 6 (Option.some Jvm.ClassFile.FieldType.int) :: WG
abbrev c_M_make : ByteArray := prog_4_method_5_code
abbrev y_M_make : MethodName := ⟨"LitreFractionsModel", "make", "(JJI)I"⟩
abbrev w_M_make : List Cond := .code y_M_make c_M_make 12 (Option.some Jvm.ClassFile.FieldType.int) :: WG
abbrev c_M_common : ByteArray := prog_4_method_4_code
abbrev y_M_common : MethodName := ⟨"LitreFractionsModel", "common", "(JJ)J"⟩
abbrev w_M_common : List Cond := .code y_M_common c_M_common 10 (Option.some Jvm.ClassFile.FieldType.long) :: WG
abbrev c_M_add : ByteArray := prog_4_method_7_code
abbrev y_M_add : MethodName := ⟨"LitreFractionsModel", "add", "(II)I"⟩
abbrev w_M_add : List Cond := .code y_M_add c_M_add 3 (Option.some Jvm.ClassFile.FieldType.int) :: WG
abbrev c_M_isAmount : ByteArray := prog_4_method_3_code
abbrev y_M_isAmount : MethodName := ⟨"LitreFractionsModel", "isAmount", "(I)Z"⟩
abbrev w_M_isAmount : List Cond := .code y_M_isAmount c_M_isAmount 2 (Option.some Jvm.ClassFile.FieldType.boolean) :: WG
abbrev c_M_times : ByteArray := prog_4_method_9_code
abbrev y_M_times : MethodName := ⟨"LitreFractionsModel", "times", "(II)I"⟩
abbrev w_M_times : List Cond := .code y_M_times c_M_times 6 (Option.some Jvm.ClassFile.FieldType.int) :: WG
abbrev c_M_areTwo : ByteArray := prog_4_method_8_code
abbrev y_M_areTwo : MethodName := ⟨"LitreFractionsModel", "areTwo", "(IIII)Z"⟩
abbrev w_M_areTwo : List Cond := .code y_M_areTwo c_M_areTwo 4 (Option.some Jvm.ClassFile.FieldType.boolean) :: WG
abbrev c_M_over : ByteArray := prog_4_method_10_code
abbrev y_M_over : MethodName := ⟨"LitreFractionsModel", "over", "(II)I"⟩
abbrev w_M_over : List Cond := .code y_M_over c_M_over 6 (Option.some Jvm.ClassFile.FieldType.int) :: WG
abbrev c_M_round : ByteArray := prog_4_method_12_code
abbrev y_M_round : MethodName := ⟨"LitreFractionsModel", "round", "(IIJ)I"⟩
abbrev w_M_round : List Cond := .code y_M_round c_M_round 11 (Option.some Jvm.ClassFile.FieldType.int) :: WG
abbrev c_M_isUpper : ByteArray := prog_4_method_11_code
abbrev y_M_isUpper : MethodName := ⟨"LitreFractionsModel", "isUpper", "(IJJJ)Z"⟩
abbrev w_M_isUpper : List Cond := .code y_M_isUpper c_M_isUpper 8 (Option.some Jvm.ClassFile.FieldType.boolean) :: WG
abbrev c_M_order : ByteArray := prog_4_method_13_code
abbrev y_M_order : MethodName := ⟨"LitreFractionsModel", "order", "(II)I"⟩
abbrev w_M_order : List Cond := .code y_M_order c_M_order 5 (Option.some Jvm.ClassFile.FieldType.int) :: WG
abbrev c_M_row : ByteArray := prog_4_method_15_code
abbrev y_M_row : MethodName := ⟨"LitreFractionsModel", "row", "(IJJJ)Z"⟩
abbrev w_M_row : List Cond := .code y_M_row c_M_row 9 (Option.some Jvm.ClassFile.FieldType.boolean) :: WG
abbrev c_M_isNear : ByteArray := prog_4_method_14_code
abbrev y_M_isNear : MethodName := ⟨"LitreFractionsModel", "isNear", "(J)Z"⟩
abbrev w_M_isNear : List Cond := .code y_M_isNear c_M_isNear 2 (Option.some Jvm.ClassFile.FieldType.boolean) :: WG
abbrev c_M_join : ByteArray := prog_4_method_16_code
abbrev y_M_join : MethodName := ⟨"LitreFractionsModel", "join", "(II)I"⟩
abbrev w_M_join : List Cond := .code y_M_join c_M_join 12 (Option.some Jvm.ClassFile.FieldType.int) :: WG
abbrev c_M_weight : ByteArray := prog_4_method_17_code
abbrev y_M_weight : MethodName := ⟨"LitreFractionsModel", "weight", "(J)Z"⟩
abbrev w_M_weight : List Cond := .code y_M_weight c_M_weight 3 (Option.some Jvm.ClassFile.FieldType.boolean) :: WG
abbrev c_M_share : ByteArray := prog_4_method_18_code
abbrev y_M_share : MethodName := ⟨"LitreFractionsModel", "share", "(II)I"⟩
abbrev w_M_share : List Cond := .code y_M_share c_M_share 17 (Option.some Jvm.ClassFile.FieldType.int) :: WG
abbrev c_M_digit : ByteArray := prog_4_method_19_code
abbrev y_M_digit : MethodName := ⟨"LitreFractionsModel", "digit", "(III)I"⟩
abbrev w_M_digit : List Cond := .code y_M_digit c_M_digit 11 (Option.some Jvm.ClassFile.FieldType.int) :: WG
abbrev c_M_told : ByteArray := prog_4_method_20_code
abbrev y_M_told : MethodName := ⟨"LitreFractionsModel", "told", "(II)J"⟩
abbrev w_M_told : List Cond := .code y_M_told c_M_told 3 (Option.some Jvm.ClassFile.FieldType.long) :: WG
abbrev c_M_clear : ByteArray := prog_4_method_21_code
abbrev y_M_clear : MethodName := ⟨"LitreFractionsModel", "clear", "()V"⟩
abbrev w_M_clear : List Cond := .code y_M_clear c_M_clear 2 (Option.none : Option Jvm.ClassFile.FieldType) :: WG
end
section
/-- the tables' kinds of arrays that the worlds hold -/
abbrev TY (cJ cI cT : ClassId) : List (ClassId × FieldType) := [(cJ, .long), (cI, .int), (cT, .object "LitreFractions$Table")]
/-- a state holds these cells, and the tables are known -/
def wd (dC : Nat → ClassId) (dI : Nat → Nat → Nat) (cJ cI cT : ClassId) (ws : va_W) (U : State) : Prop := va_P (dC, dI) classes ws U.heap ∧ va_K (dC, dI) classes (TY cJ cI cT) U
theorem wd_blind {dC : Nat → ClassId} {dI : Nat → Nat → Nat} {cJ cI cT : ClassId} {ws : va_W} {as : List Value} : FrameBlind (va_Pc as (wd dC dI cJ cI cT ws)) := fun a U g mk q => ⟨q.1, q.2.1, va_K.moved (u := U) (U := U.calling g mk a) (Vm.Alike.refl U.vm) q.2.2⟩
theorem wd_pre {dC : Nat → ClassId} {dI : Nat → Nat → Nat} {cJ cI cT : ClassId} {ws : va_W} {as : List Value} {s : State} {H : Heap} (hP : va_P (dC, dI) classes ws H) (hK : va_K (dC, dI) classes (TY cJ cI cT) s) : ∀ U : State, U.heap = H → s.WarmedH U.vm → va_Pc as (wd dC dI cJ cI cT ws) as.toArray U := fun U hU hW => ⟨rfl, by rw [hU]; exact hP, va_K.moved hW.alike hK⟩
theorem nw_blind {as : List Value} : FrameBlind (va_Pc as (fun _ => True)) := fun _ _ _ _ h => h
theorem q_good {c : Cond} (h1 : c ∈ WG) : GoodIn WG (c :: WG) := fun w h => (List.mem_cons.mp h).elim (fun e => by rw [e]; exact ⟨h1, (WG_ok _ h1).2⟩) (fun h => ⟨h, (WG_ok _ h).2⟩)
section QC
variable {R rm : Room} {s : State} {args : Array Value} {own C host : String} {index maxL mc ms : Nat} {y : MethodName} {bytes : ByteArray} {ret : Option FieldType}
theorem q_S (n : Nat) (hg : ∀ w ∈ WG, w.before args s = true) (h1 : Cond.code y bytes maxL ret ∈ WG) (h2 : Cond.methodLink own index y ∈ WG) (h3 : Cond.static y ∈ WG) (h4 : Cond.initialized y.cls ∈ WG) (hrc : rm.cells = mc) (hrs : rm.slots = ms)
    (hd : y.cls ≠ "java/lang/invoke/MethodHandle" ∧ y.cls ≠ "java/lang/invoke/VarHandle" ∧ (parseMethodDescriptor y.desc).map (fun d => d.parameters.length) = some n) (hR : rm.frames + 1 ≤ R.frames ∧ 8 + (maxL + 11) + rm.locals ≤ R.locals) :
    CallB R s args own index y bytes maxL ret (Cond.code y bytes maxL ret :: WG) rm mc ms n ∧ (Cond.static y).before args s = true := ⟨callB_of n hg (q_good h1) rfl hrc hrs (hg _ h4) (hg _ h2) hd hR, hg _ h3⟩
theorem q_V (n : Nat) (hg : ∀ w ∈ WG, w.before args s = true) (h1 : Cond.code y bytes maxL ret ∈ WG) (h2 : Cond.methodLink own index y ∈ WG) (h3 : Cond.instanceMethod y ∈ WG) (h5 : Cond.selects C y y ∈ WG) (h4 : Cond.initialized y.cls ∈ WG) (hrc : rm.cells = mc) (hrs : rm.slots = ms)
    (hd : y.cls ≠ "java/lang/invoke/MethodHandle" ∧ y.cls ≠ "java/lang/invoke/VarHandle" ∧ (parseMethodDescriptor y.desc).map (fun d => d.parameters.length) = some n) (hR : rm.frames + 1 ≤ R.frames ∧ 8 + (maxL + 11) + rm.locals ≤ R.locals) :
    CallW R s args own C index y bytes maxL ret (Cond.code y bytes maxL ret :: WG) rm mc ms n := ⟨callB_of n hg (q_good h1) rfl hrc hrs (hg _ h4) (hg _ h2) hd hR, hg _ h3, hg _ h5⟩
theorem q_I (n : Nat) (hg : ∀ w ∈ WG, w.before args s = true) (h1 : Cond.code y bytes maxL none ∈ WG) (h2 : Cond.methodLink own index y ∈ WG) (h3 : Cond.instanceMethod y ∈ WG) (h4 : Cond.initialized y.cls ∈ WG) (hrc : rm.cells = mc) (hrs : rm.slots = ms) (hy1 : y.name = "<init>")
    (hd : y.cls ≠ "java/lang/invoke/MethodHandle" ∧ y.cls ≠ "java/lang/invoke/VarHandle" ∧ (parseMethodDescriptor y.desc).map (fun d => d.parameters.length) = some n) (hR : rm.frames + 1 ≤ R.frames ∧ 8 + (maxL + 11) + rm.locals ≤ R.locals) :
    CallB R s args own index y bytes maxL none (Cond.code y bytes maxL none :: WG) rm mc ms n ∧ y.name = "<init>" ∧ (Cond.instanceMethod y).before args s = true := ⟨callB_of n hg (q_good h1) rfl hrc hrs (hg _ h4) (hg _ h2) hd hR, hy1, hg _ h3⟩
theorem q_N (n : Nat) (hg : ∀ w ∈ WG, w.before args s = true) (h1 : Cond.code y bytes maxL ret ∈ WG) (h2 : va_Nw (.methodLinkNest own index y host) s) (h4 : Cond.initialized y.cls ∈ WG) (hrc : rm.cells = mc) (hrs : rm.slots = ms)
    (hd : y.cls ≠ "java/lang/invoke/MethodHandle" ∧ y.cls ≠ "java/lang/invoke/VarHandle" ∧ (parseMethodDescriptor y.desc).map (fun d => d.parameters.length) = some n) (hR : rm.frames + 1 ≤ R.frames ∧ 8 + (maxL + 11) + rm.locals ≤ R.locals) :
    va_CN R s args own index y host bytes maxL ret (Cond.code y bytes maxL ret :: WG) rm mc ms n := va_cnB n hg (q_good h1) rfl hrc hrs h2 (hg _ h4) hd hR
end QC
end
