/-- the tables' kinds of arrays that the worlds hold -/
abbrev TY (cJ cI cT : ClassId) : List (ClassId × FieldType) := [(cJ, .long), (cI, .int), (cT, .object "LitreFractions$Table")]
/-- a state holds these cells, and the tables are known -/
def wd (dC : Nat → ClassId) (dI : Nat → Nat → Nat) (cJ cI cT : ClassId) (ws : va_W) (U : State) : Prop := va_P (dC, dI) classes ws U.heap ∧ va_K (dC, dI) classes (TY cJ cI cT) U
theorem wd_blind {dC : Nat → ClassId} {dI : Nat → Nat → Nat} {cJ cI cT : ClassId} {ws : va_W} {as : List Value} : FrameBlind (va_Pc as (wd dC dI cJ cI cT ws)) := fun a U g mk q => ⟨q.1, q.2.1, va_K.moved (u := U) (U := U.calling g mk a) (Vm.Alike.refl U.vm) q.2.2⟩
theorem wd_pre {dC : Nat → ClassId} {dI : Nat → Nat → Nat} {cJ cI cT : ClassId} {ws : va_W} {as : List Value} {s : State} {H : Heap} (hP : va_P (dC, dI) classes ws H) (hK : va_K (dC, dI) classes (TY cJ cI cT) s) : ∀ U : State, U.heap = H → s.WarmedH U.vm → va_Pc as (wd dC dI cJ cI cT ws) as.toArray U := fun U hU hW => ⟨rfl, by rw [hU]; exact hP, va_K.moved hW.alike hK⟩
theorem nw_blind {as : List Value} : FrameBlind (va_Pc as (fun _ => True)) := fun _ _ _ _ h => h
theorem q_good {c : Cond} (h1 : c ∈ WG) : GoodIn WG (c :: WG) := fun w h => (List.mem_cons.mp h).elim (fun e => by rw [e]; exact ⟨h1, (WG_ok _ h1).2⟩) (fun h => ⟨h, (WG_ok _ h).2⟩)
section QC
variable {R rm : Room} {s : State} {args : Array Value} {own C host : String} {index maxL mc ms : Nat} {y : MethodName} {bytes : ByteArray} {ret : Option FieldType}
theorem q_S (n : Nat) (hg : ∀ w ∈ WG, w.before args s = true) (h1 : Cond.code y bytes maxL ret ∈ WG) (h2 : Cond.methodLink own index y ∈ WG) (h3 : Cond.static y ∈ WG) (h4 : Cond.initialized y.cls ∈ WG) (hrc : rm.cells = mc) (hrs : rm.slots = ms)
    (hd : y.cls ≠ "java/lang/invoke/MethodHandle" ∧ y.cls ≠ "java/lang/invoke/VarHandle" ∧ (parseMethodDescriptor y.desc).map (fun d => d.parameters.length) = some n) (hR : rm.frames + 1 ≤ R.frames ∧ 8 + (maxL + 11) + rm.locals ≤ R.locals) :
    CallB R s args own index y bytes maxL ret (Cond.code y bytes maxL ret :: WG) rm mc ms n ∧ (Cond.static y).before args s = true := ⟨callB_of n hg (q_good h1) rfl hrc hrs (hg _ h4) (hg _ h2) hd hR, hg _ h3⟩
theorem q_V (n : Nat) (hg : ∀ w ∈ WG, w.before args s = true) (h1 : Cond.code y bytes maxL ret ∈ WG) (h2 : Cond.methodLink own index y ∈ WG) (h3 : Cond.instanceMethod y ∈ WG) (h5 : Cond.selects C y y ∈ WG) (h4 : Cond.initialized y.cls ∈ WG) (hrc : rm.cells = mc) (hrs : rm.slots = ms)
    (hd : y.cls ≠ "java/lang/invoke/MethodHandle" ∧ y.cls ≠ "java/lang/invoke/VarHandle" ∧ (parseMethodDescriptor y.desc).map (fun d => d.parameters.length) = some n) (hR : rm.frames + 1 ≤ R.frames ∧ 8 + (maxL + 11) + rm.locals ≤ R.locals) :
    CallW R s args own C index y bytes maxL ret (Cond.code y bytes maxL ret :: WG) rm mc ms n := ⟨callB_of n hg (q_good h1) rfl hrc hrs (hg _ h4) (hg _ h2) hd hR, hg _ h3, hg _ h5⟩
theorem q_I (n : Nat) (hg : ∀ w ∈ WG, w.before args s = true) (h1 : Cond.code y bytes maxL none ∈ WG) (h2 : Cond.methodLink own index y ∈ WG) (h3 : Cond.instanceMethod y ∈ WG) (h4 : Cond.initialized y.cls ∈ WG) (hrc : rm.cells = mc) (hrs : rm.slots = ms) (hy1 : y.name = "<init>")
    (hd : y.cls ≠ "java/lang/invoke/MethodHandle" ∧ y.cls ≠ "java/lang/invoke/VarHandle" ∧ (parseMethodDescriptor y.desc).map (fun d => d.parameters.length) = some n) (hR : rm.frames + 1 ≤ R.frames ∧ 8 + (maxL + 11) + rm.locals ≤ R.locals) :
    CallB R s args own index y bytes maxL none (Cond.code y bytes maxL none :: WG) rm mc ms n ∧ y.name = "<init>" ∧ (Cond.instanceMethod y).before args s = true := ⟨callB_of n hg (q_good h1) rfl hrc hrs (hg _ h4) (hg _ h2) hd hR, hy1, hg _ h3⟩
theorem q_N (n : Nat) (hg : ∀ w ∈ WG, w.before args s = true) (h1 : Cond.code y bytes maxL ret ∈ WG) (h2 : va_Nw (.methodLinkNest own index y host) s) (h4 : Cond.initialized y.cls ∈ WG) (hrc : rm.cells = mc) (hrs : rm.slots = ms)
    (hd : y.cls ≠ "java/lang/invoke/MethodHandle" ∧ y.cls ≠ "java/lang/invoke/VarHandle" ∧ (parseMethodDescriptor y.desc).map (fun d => d.parameters.length) = some n) (hR : rm.frames + 1 ≤ R.frames ∧ 8 + (maxL + 11) + rm.locals ≤ R.locals) :
    va_CN R s args own index y host bytes maxL ret (Cond.code y bytes maxL ret :: WG) rm mc ms n := va_cnB n hg (q_good h1) rfl hrc hrs h2 (hg _ h4) hd hR
end QC
/-- a method that no native replaces, of any owner -/
theorem met_F {l : Launch} {y : MethodName} {ws ws' : List Cond} {rm : Room} {Pc : Array Value → State → Prop} {Qc : Array Value → State → Outcome → State → Prop} {mc ms : Nat} {free : Addr → Prop} {cc : ByteArray} {maxL : Nat} {ret : Option FieldType}
    (hy : plainFor y = true) (hw : ws = Cond.code y cc maxL ret :: ws')
    (body : ∀ p e s m args below meth c s₁, BodyLoose p l y (headSpec ws rm) cc maxL ret e s m args below meth c s₁ → c.maxLocals = maxL → Pc args s →
      W p l e (headSpec ws rm).room s m args below meth c s.heap [] 0 0 (MQ below Qc args s mc ms free) (entryFrame m args maxL)) : Met l y ws rm Pc Qc mc ms free := by
  refine MetFree.of_bodySF (code := cc) (maxLocals := maxL) (ret := ret) hy ?_ ?_
  · intro args s m h hn
    obtain ⟨meth, c, h1, h2, h3, h4, h5, h6, -, -⟩ := Cond.code_spec hn (atoms_spec (ws := ws) h _ (by rw [hw]; exact List.mem_cons_self))
    exact ⟨meth, c, h1, h2, h3, h4, h5, h6⟩
  · intro p e s m args below meth c s₁ B hml hP _
    have hh0 : s₁.heap = s.heap := by rw [B.state]; rfl
    obtain ⟨t, a1, o, b1, b2, b3⟩ := body p e s m args below meth c s₁ B hml hP s₁ hh0 (Stand.of_body B)
    exact ⟨t, o, a1, b1, b2, ⟨b3.1, b3.2⟩⟩
