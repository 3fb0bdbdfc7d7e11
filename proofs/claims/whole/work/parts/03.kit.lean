/-! ===== my own rows, 1: a method that returns or throws (launches without stack traces) ===== -/
section TR1
/-- a method has thrown q, an object of the class named E -/
def tr_out (X : String → State → Prop) (A : Nat → Prop) (mc ms : Nat) (st : State) (q : Addr) (t : State) : Prop :=
  ∃ (E : String) (ce : Cell) (L : List Loc), (X E t ∧ va_F A st t) ∧ (t.heap[q]? = some ce ∧ ce.vm = .none ∧ st.vm.findClass E = some ce.cls) ∧ st.WarmedH t.vm ∧ st.sameButNew ({ t with vm := st.vm } : State) L mc ms ∧ ∀ z ∈ L, A z.base
def tr_Q (Qc : Array Value → State → Outcome → State → Prop) (X : String → State → Prop) (A : Nat → Prop) (mc ms : Nat) : Array Value → State → Outcome → State → Prop := fun a st o t =>
  (Qc a st o t ∧ ∃ L, FrameEnd st o t L mc ms ∧ ∀ z ∈ L, A z.base) ∨ ∃ q, o = .threw q ∧ tr_out X A mc ms st q t
/-- the contract of a method that may throw -/
def tr_Met (l : Launch) (y : MethodName) (ws : List Cond) (rm : Room) (Pc : Array Value → State → Prop) (Qc : Array Value → State → Outcome → State → Prop) (X : String → State → Prop) (A : Nat → Prop) (mc ms : Nat) : Prop :=
  MetFree l y (headSpec ws rm) Pc (fun _ _ _ _ _ => True) (tr_Q Qc X A mc ms)
/-- what its body owes -/
def tr_MQ (below : List Frame) (Qc : Array Value → State → Outcome → State → Prop) (X : String → State → Prop) (A : Nat → Prop) (a : Array Value) (s : State) (mc ms : Nat) : State → Prop := fun t =>
  ∃ o, t.status = .running ∧ Ended t below o ∧ tr_Q Qc X A mc ms a s o t
/-- the frame g, with q thrown over it -/
def tr_W (p : Program) (l : Launch) (e : Env) (R : Room) (s : State) (m : MethodId) (args : Array Value) (below : List Frame) (meth : Method) (c : Code) (H : Heap) (locs : List Loc) (cells slots : Nat) (Q : State → Prop) (g : JFrame) (q : Addr) : Prop :=
  ∀ T : State, T.heap = H → Stand p l e R s m args below meth c T locs cells slots → ∃ t, Steps p.tables e below ((T.setTop g).pushFrame (.throwing q)) t ∧ Q t
theorem tr_ofW {l : Launch} {y : MethodName} {ws ws' : List Cond} {rm : Room} {Pc : Array Value → State → Prop} {Qc : Array Value → State → Outcome → State → Prop} {X : String → State → Prop} {A : Nat → Prop} {mc ms : Nat} {cc : ByteArray} {maxL : Nat} {ret : Option FieldType}
    (hy : plainName y.cls = true) (hw : ws = Cond.code y cc maxL ret :: ws')
    (body : ∀ p e s m args below meth c s₁, BodyLoose p l y (headSpec ws rm) cc maxL ret e s m args below meth c s₁ → c.maxLocals = maxL → Pc args s →
      W p l e (headSpec ws rm).room s m args below meth c s.heap [] 0 0 (tr_MQ below Qc X A args s mc ms) (entryFrame m args maxL)) : tr_Met l y ws rm Pc Qc X A mc ms := by
  refine MetFree.of_bodyS (code := cc) (maxLocals := maxL) (ret := ret) hy ?_ ?_
  · intro args s m h hn
    obtain ⟨meth, c, h1, h2, h3, h4, h5, h6, -, -⟩ := Cond.code_spec hn (atoms_spec (ws := ws) h _ (by rw [hw]; exact List.mem_cons_self))
    exact ⟨meth, c, h1, h2, h3, h4, h5, h6⟩
  · intro p e s m args below meth c s₁ B hml hP _
    have hh0 : s₁.heap = s.heap := by rw [B.state]; rfl
    obtain ⟨t, a1, o, b1, b2, b3⟩ := body p e s m args below meth c s₁ B hml hP s₁ hh0 (Stand.of_body B)
    exact ⟨t, o, a1, b1, b2, b3⟩
end TR1
section TR2
variable {p : Program} {l : Launch} {e : Env} {R : Room} {s : State} {m : MethodId} {args : Array Value} {below : List Frame} {meth : Method} {c : Code} {H : Heap} {locs : List Loc} {cells slots : Nat} {Q : State → Prop}
variable {Qc : Array Value → State → Outcome → State → Prop} {X : String → State → Prop} {A : Nat → Prop} {mc ms : Nat}
theorem tr_ret {g : JFrame} (k : W p l e R s m args below meth c H locs cells slots (MQ below Qc args s mc ms A) g) : W p l e R s m args below meth c H locs cells slots (tr_MQ below Qc X A args s mc ms) g := by
  intro T hT Y
  obtain ⟨t, a1, o, b1, b2, b3, b4⟩ := k T hT Y
  exact ⟨t, a1, o, b1, b2, Or.inl ⟨b3, b4⟩⟩
/-- nobody here catches it -/
theorem tr_pass {pc : Nat} {ls : Array Slot} {rest : List Value} {E : String} {ce : Cell} {q : Addr} (hout : ∀ x ∈ c.exceptionTable.toList, covers x pc = false) (hlocks : meth.locks = false)
    (hcell : H[q]? = some ce) (hv : ce.vm = .none) (hcl : s.vm.findClass E = some ce.cls) (hx : ∀ t : State, t.heap = H → X E t) (hS : va_S A s.heap H locs) (hc : cells ≤ mc) (hs : slots ≤ ms) :
    tr_W p l e R s m args below meth c H locs cells slots (tr_MQ below Qc X A args s mc ms) (F0 m pc ls rest) q := by
  intro T hT Y
  obtain ⟨st1, hrun, hend, hW, hsm⟩ := Y.leaveThrown q (g := F0 m pc ls rest) rfl rfl rfl hout hlocks
  refine ⟨_, st1, .threw q, hrun, hend, Or.inr ⟨q, rfl, E, ce, locs, ⟨hx _ hT, hS.F hT⟩, ⟨?_, hv, hcl⟩, hW, hsm.mono hc hs, hS.2.2⟩⟩
  show T.heap[q]? = some ce
  rw [hT]; exact hcell
/-- behind a callee's end s₂ (its frames aside): the caller stands in a state B -/
theorem tr_mid {U s₂ : State} {g : JFrame} {mk : MethodId} {a : Array Value} {L : List Loc} {k n : Nat} (Y : Stand p l e R s m args below meth c U locs cells slots)
    (hW : (U.calling g mk a).WarmedH s₂.vm) (hs : (U.calling g mk a).sameButNew ({ s₂ with vm := (U.calling g mk a).vm } : State) L k n) :
    ∃ B : State, B.heap = s₂.heap ∧ B.vm = s₂.vm ∧ Stand p l e R s m args below meth c B (locs ++ L) (cells + k) (slots + n) ∧
      (∀ g' : JFrame, s₂.frames = .java g' :: U.frames.tail → s₂ = B.setTop g') ∧ (∀ (g' : JFrame) (q : Addr), s₂.frames = .throwing q :: .java g' :: U.frames.tail → s₂ = (B.setTop g').pushFrame (.throwing q)) := by
  have htop := Y.here.top
  obtain ⟨e2, q2, q3, q4, q5, q6⟩ := hs
  have e3 : s₂ = ({ (U.calling g mk a).setFrames s₂.frames with heap := s₂.heap, slotsUsed := s₂.slotsUsed } : State).setVm s₂.vm := by
    have h9 : s₂ = ({ s₂ with vm := (U.calling g mk a).vm } : State).setVm s₂.vm := rfl
    rw [e2] at h9
    exact h9
  have hW' : U.WarmedH s₂.vm := hW
  obtain ⟨g₀, hg0⟩ := Option.isSome_iff_exists.mp htop
  obtain ⟨r, hr⟩ := State.topJava?_eq_some.mp hg0
  have hr' : (({ U with heap := s₂.heap, slotsUsed := s₂.slotsUsed } : State).setVm s₂.vm).frames = .java g₀ :: r := hr
  have hsame : U.sameButNew ({ U with heap := s₂.heap, slotsUsed := s₂.slotsUsed } : State) L k n := by
    refine ⟨?_, q2, q3, q4, q5, q6⟩
    obtain ⟨t, ht, -⟩ := State.frames_cons hr
    show ({ U with heap := s₂.heap, slotsUsed := s₂.slotsUsed } : State) = { U.setFrames U.frames with heap := s₂.heap, slotsUsed := s₂.slotsUsed }
    rw [State.setFrames_self ht]
  refine ⟨({ U with heap := s₂.heap, slotsUsed := s₂.slotsUsed } : State).setVm s₂.vm, rfl, rfl,
    ⟨Y.admits, Y.cas, Y.clock, Y.frames, Y.room, Y.hears, Y.method, Y.code, (Y.here.setHeapUsed s₂.heap s₂.slotsUsed).setVm hW'.alike, Y.tail, State.WarmedH.trans Y.warmed hW', Y.limits, Y.bytes, Y.same.trans (hsame.setVm s.vm)⟩, ?_, ?_⟩
  · intro g' hf
    refine e3.trans ?_
    rw [hf, State.calling_eq htop, State.setFrames_setFrames, State.setTop_of_frames _ hr', hr]
    rfl
  · intro g' q hf
    refine e3.trans ?_
    rw [hf, State.calling_eq htop, State.setFrames_setFrames, State.pushFrame, State.frames_setTop _ hr', State.setTop_of_frames _ hr', State.setFrames_setFrames, hr]
    rfl
/-- the callee's run, from its entry: it comes back, or it throws over the caller's frame -/
theorem tr_enter {y : MethodName} {ws : List Cond} {rm : Room} {Pc : Array Value → State → Prop} {bytes : ByteArray} {maxL len W9 : Nat} {ret : Option FieldType} {U : State}
    (hM : tr_Met l y ws rm Pc Qc X A mc ms) (hrc : rm.cells = mc) (hrs : rm.slots = ms) (hframes : rm.frames + 1 ≤ R.frames) (hlocals : W9 + (maxL + 11) + rm.locals ≤ R.locals)
    (hws : ∀ w ∈ ws, ∀ (a' : Array Value) (U : State), s.WarmedH U.vm → w.before a' U = true) (hcode : Cond.code y bytes maxL ret ∈ ws) (hinit : ∀ (a' : Array Value) (U : State), s.WarmedH U.vm → (Cond.initialized y.cls).before a' U = true)
    (Y : Stand p l e R s m args below meth c U locs cells slots) {g : JFrame} (hg : g.method = m) (hsize : g.locals.size = c.maxLocals) {ig : Instr} (hdg : decode c.code g.pc = .ok (ig, len)) (hW : 2 * g.monitorRoom + (g.stack.map fun v => v.category).sum ≤ W9)
    {mk : MethodId} (hn : U.methodNamed? y = some mk) {a : Array Value} (hc : cells + mc ≤ R.cells) (hs : slots + ms ≤ R.slots) (hPc : Pc a (U.calling g mk a)) :
    ∃ (t B : State) (L : List Loc), B.heap = t.heap ∧ B.vm = t.vm ∧ Stand p l e R s m args below meth c B (locs ++ L) (cells + mc) (slots + ms) ∧ (∀ z ∈ L, A z.base) ∧
      ((∃ v : Option Value, Qc a (U.calling g mk a) (.returned v) t ∧ Steps p.tables e below (doInvoke e (U.setTop g) [] mk a).1 (B.setTop { g with pc := g.pc + len, stack := v.toList ++ g.stack })) ∨
       (∃ (q : Addr) (E : String) (ce : Cell), (X E t ∧ va_F A (U.calling g mk a) t) ∧ (t.heap[q]? = some ce ∧ ce.vm = .none ∧ U.vm.findClass E = some ce.cls) ∧ Steps p.tables e below (doInvoke e (U.setTop g) [] mk a).1 ((B.setTop g).pushFrame (.throwing q)))) := by
  have h1 : (headSpec ws rm).pre.before a U = true := atoms_intro fun w hw => hws w hw _ _ Y.warmed
  have h2 : (Cond.code y bytes maxL ret).before a U = true := hws _ hcode _ _ Y.warmed
  have h3 : (Cond.initialized y.cls).before a U = true := hinit _ _ Y.warmed
  obtain ⟨methY, cY, hmY, hcY, -, hlY, -, -, -, -⟩ := Cond.code_spec hn h2
  obtain ⟨kY, hkY, -⟩ := className_of_methodNamed hn
  have hinitY : kY.init = .initialized := Cond.initialized_spec (findClass_of_methodNamed hn) hkY h3
  have h : At U g.method c below := by rw [hg]; exact Y.here
  have hlocals9 : W9 + (maxL + 11) + (headSpec ws rm).room.locals ≤ R.locals := hlocals
  have happ : (headSpec ws rm).appliesLoose y e.platform (U.calling g mk a) = true :=
    Spec.appliesLoose_calling (g := g) h hdg hn hkY hinitY
      (Y.room_calling (g := g) (R' := (headSpec ws rm).room) hsize hmY hcY hframes (by rw [hlY]; omega) (by rw [show (headSpec ws rm).room.cells = mc from hrc]; exact hc) (by rw [show (headSpec ws rm).room.slots = ms from hrs]; exact hs)) h1
  obtain ⟨mid, hmid⟩ := h.above
  have hfr : (U.setTop g).frames = (.java g :: mid) ++ below := by rw [State.frames_setTop' g h.top, hmid]; rfl
  obtain ⟨o, s₂, hsteps, -, hend, hq⟩ := Steps.callFree hM p Y.admits Y.cas Y.clock (acts := []) hfr happ hPc trivial
  have hq' : tr_Q Qc X A mc ms a (U.calling g mk a) o s₂ := hq
  rw [State.frames_setTop' g h.top] at hend
  rcases hq' with ⟨hqc, L, hfe, hL⟩ | ⟨q, rfl, E, ce, L, hx, hce, hW₂, hsm, hL⟩
  · obtain ⟨⟨v, rfl⟩, hW₂, hsm⟩ := hfe
    obtain ⟨B, b1, b2, b3, b4, -⟩ := tr_mid Y hW₂ hsm
    refine ⟨s₂, B, L, b1, b2, b3, hL, Or.inl ⟨v, hqc, ?_⟩⟩
    obtain ⟨c₂, i₂, len₂, hc₂, hd₂, hf₂⟩ := hend
    have hW' : U.WarmedH s₂.vm := hW₂
    have hcc : c₂ = c := by
      have h9 : s₂.code? g.method = U.code? g.method := by rw [State.code?_eq, State.code?_eq, hW'.alike.method?]
      exact Option.some.inj (hc₂.symm.trans (h9.trans h.code))
    subst hcc
    have hlen : len₂ = len := by rw [hdg] at hd₂; cases hd₂; rfl
    subst hlen
    rw [← b4 _ hf₂]
    exact hsteps
  · obtain ⟨B, b1, b2, b3, -, b5⟩ := tr_mid Y hW₂ hsm
    refine ⟨s₂, B, L, b1, b2, b3, hL, Or.inr ⟨q, E, ce, hx, hce, ?_⟩⟩
    have hf₂ : s₂.frames = .throwing q :: .java g :: U.frames.tail := hend
    rw [← b5 _ _ hf₂]
    exact hsteps
end TR2
section TR3
variable {p : Program} {l : Launch} {e : Env} {R : Room} {s : State} {m : MethodId} {args : Array Value} {below : List Frame} {meth : Method} {c : Code} {H : Heap} {locs : List Loc} {cells slots : Nat} {Q : State → Prop}
variable {Ts ws ws' : List Cond} {cc bytes : ByteArray} {nL maxL index n mc ms pc : Nat} {own C : String} {y : MethodName} {ret : Option FieldType} {rm : Room} {Pc : Array Value → State → Prop} {Qc : Array Value → State → Outcome → State → Prop} {X : String → State → Prop} {A A0 : Nat → Prop} {H0 : Heap}
variable {b : Addr} {As rest st0 : List Value} {g : JFrame} {a : Array Value} {ls : Array Slot}
/-- a call that comes back or throws, seen from the caller's frame g -/
def tr_Run (p : Program) (l : Launch) (e : Env) (R : Room) (s : State) (m : MethodId) (args : Array Value) (below : List Frame) (meth : Method) (c : Code) (H : Heap) (locs : List Loc) (cells slots mc ms : Nat) (g : JFrame) (rest : List Value) (Qa : State → Outcome → State → Prop) (X : String → State → Prop) (A : Nat → Prop) : Prop :=
  ∀ T : State, T.heap = H → Stand p l e R s m args below meth c T locs cells slots → ∃ (st₀ t B : State) (L : List Loc), st₀.heap = H ∧ B.heap = t.heap ∧ s.vm.Alike t.vm ∧ Stand p l e R s m args below meth c B (locs ++ L) (cells + mc) (slots + ms) ∧ (∀ z ∈ L, A z.base) ∧
    ((∃ v : Option Value, Qa st₀ (.returned v) t ∧ ∀ tg, Steps p.tables e below (B.setTop { g with pc := g.pc + 3, stack := v.toList ++ rest }) tg → Steps p.tables e below (T.setTop g) tg) ∨
     (∃ (q : Addr) (E : String) (ce : Cell), (X E t ∧ va_F A st₀ t) ∧ (t.heap[q]? = some ce ∧ ce.vm = .none ∧ s.vm.findClass E = some ce.cls) ∧ Steps p.tables e below (T.setTop g) ((B.setTop { g with stack := rest }).pushFrame (.throwing q))))
theorem tr_runV (S : CallFix p m c cc nL s args Ts own) (hM : tr_Met l y ws rm Pc Qc X A mc ms) (cw : CallW R s args own C index y bytes maxL ret ws rm mc ms n) (hp : PreV s H C b Pc As)
    (hg : g.method = m) (hn : As.length = n) (hsize : g.locals.size = nL) (hstack : g.stack = As.reverse ++ .ref b :: rest) (hW : 2 * g.monitorRoom + (rest.map fun v => v.category).sum ≤ 8) (hdg : decode cc g.pc = .ok (.invokevirtual index, 3)) (hf : cells + mc ≤ R.cells ∧ slots + ms ≤ R.slots) :
    tr_Run p l e R s m args below meth c H locs cells slots mc ms g rest (Qc (Value.ref b :: As).toArray) X A := by
  intro T hT Y
  obtain ⟨hx, hb, hml, hown, -⟩ := S
  obtain ⟨⟨hrc, hrs, hfr, hlo, hws, hcw, hcode, hini, hy, hnn, hlink⟩, hinst, hsel⟩ := cw
  obtain ⟨hbl, ⟨cellB, hcell, hobj, hcls⟩, hPc⟩ := hp
  obtain ⟨mk, methM, hnamed, hmethM, hstM, habM⟩ := Cond.instanceMethod_spec hinst
  obtain ⟨methM', cM, hmethM', -, -, -, -, -, -, hsigM⟩ := Cond.code_spec hnamed hcode
  cases hmethM.symm.trans hmethM'
  obtain ⟨c2, r2, m2, q1, q2, q3, q4, kP, hkP, hkPi⟩ := Cond.selects_spec hsel
  cases hcls.symm.trans q1
  cases (State.methodFound?_of_named hnamed hy).symm.trans q2
  cases hnamed.symm.trans q3
  have hselP : selectMethod e.platform s.vm cellB.cls mk = .method mk := by rw [Launch.admits_selectMethod Y.admits]; exact q4
  have hdg' : decode c.code g.pc = .ok (.invokevirtual index, 3) := by rw [hb]; exact hdg
  obtain ⟨vm₁, X₁, hstep₁⟩ := Y.invokevirtual hx hown hlink hnamed hmethM hstM hkP hkPi hy (a := b) (cell := cellB) (by rw [hT]; exact hcell)
    (fun z h => by rw [h] at hobj; cases hobj) hselP hmethM habM hkP hkPi (g := g) hg (argsL := As) (rest := rest) (by rw [hn]; exact hnn _ hsigM) hstack hdg'
  obtain ⟨t, B, L, b1, b2, b3, hL, h⟩ := tr_enter (bytes := bytes) (maxL := maxL) (ret := ret) (W9 := 8) (len := 3) hM hrc hrs hfr hlo hws hcw (fun a' U hW => word_at hW (Or.inl (by first | rfl | simp [Cond.onTables, Cond.keeps, Cond.steady])) hini) X₁
    (g := { g with stack := rest }) hg (hsize.trans hml.symm) hdg' hW (X₁.named hnamed) (a := (Value.ref b :: As).toArray) hf.1 hf.2 (hbl _ _ _ _ (hPc (T.setVm vm₁) hT X₁.warmed))
  refine ⟨(T.setVm vm₁).calling { g with stack := rest } mk (Value.ref b :: As).toArray, t, B, L, hT, b1, ?_, b3, hL, ?_⟩
  · rw [← b2]; exact b3.warmed.alike
  · rcases h with ⟨v, hq, hst⟩ | ⟨q, E, ce, hx9, ⟨w1, w2, w3⟩, hst⟩
    · exact Or.inl ⟨v, hq, fun tg h9 => hstep₁ _ fun acts => by rw [doInvoke_state]; exact hst.trans h9⟩
    · refine Or.inr ⟨q, E, ce, hx9, ⟨w1, w2, ?_⟩, hstep₁ _ fun acts => by rw [doInvoke_state]; exact hst⟩
      rw [X₁.warmed.alike.symm.findClass]; exact w3
theorem tr_runS (S : CallFix p m c cc nL s args Ts own) (hM : tr_Met l y ws rm Pc Qc X A mc ms) (cw : CallB R s args own index y bytes maxL ret ws rm mc ms n ∧ (Cond.static y).before args s = true) (hp : PreS s H Pc As)
    (hg : g.method = m) (hn : As.length = n) (hsize : g.locals.size = nL) (hstack : g.stack = As.reverse ++ rest) (hW : 2 * g.monitorRoom + (rest.map fun v => v.category).sum ≤ 8) (hdg : decode cc g.pc = .ok (.invokestatic index, 3)) (hf : cells + mc ≤ R.cells ∧ slots + ms ≤ R.slots) :
    tr_Run p l e R s m args below meth c H locs cells slots mc ms g rest (Qc As.toArray) X A := by
  intro T hT Y
  obtain ⟨hx, hb, hml, hown, -⟩ := S
  obtain ⟨⟨hrc, hrs, hfr, hlo, hws, hcw, hcode, hini, hy, hnn, hlink⟩, hstat⟩ := cw
  obtain ⟨hbl, hPc⟩ := hp
  obtain ⟨mk, hnamed⟩ := Cond.code_named hcode
  obtain ⟨methM, cM, hmethM, -, -, -, -, -, -, hsigM⟩ := Cond.code_spec hnamed hcode
  have hstatic : methM.isStatic = true := Cond.static_spec hnamed hmethM hstat
  obtain ⟨kP, hkP, -⟩ := className_of_methodNamed hnamed
  have hinitP : kP.init = .initialized := Cond.initialized_spec (findClass_of_methodNamed hnamed) hkP hini
  have hdg' : decode c.code g.pc = .ok (.invokestatic index, 3) := by rw [hb]; exact hdg
  obtain ⟨vm₁, X₁, hstep₁⟩ := Y.invokestatic hx hown hlink hnamed hmethM hstatic hkP hinitP hy (g := g) hg (argsL := As) (rest := rest) (by rw [hn]; exact hnn _ hsigM) hstack hdg'
  obtain ⟨t, B, L, b1, b2, b3, hL, h⟩ := tr_enter (bytes := bytes) (maxL := maxL) (ret := ret) (W9 := 8) (len := 3) hM hrc hrs hfr hlo hws hcw (fun a' U hW => word_at hW (Or.inl (by first | rfl | simp [Cond.onTables, Cond.keeps, Cond.steady])) hini) X₁
    (g := { g with stack := rest }) hg (hsize.trans hml.symm) hdg' hW (X₁.named hnamed) (a := As.toArray) hf.1 hf.2 (hbl _ _ _ _ (hPc (T.setVm vm₁) hT X₁.warmed))
  refine ⟨(T.setVm vm₁).calling { g with stack := rest } mk As.toArray, t, B, L, hT, b1, ?_, b3, hL, ?_⟩
  · rw [← b2]; exact b3.warmed.alike
  · rcases h with ⟨v, hq, hst⟩ | ⟨q, E, ce, hx9, ⟨w1, w2, w3⟩, hst⟩
    · exact Or.inl ⟨v, hq, fun tg h9 => hstep₁ _ fun acts => by rw [doInvoke_state]; exact hst.trans h9⟩
    · refine Or.inr ⟨q, E, ce, hx9, ⟨w1, w2, ?_⟩, hstep₁ _ fun acts => by rw [doInvoke_state]; exact hst⟩
      rw [X₁.warmed.alike.symm.findClass]; exact w3
/-- what a call leaves as it was -/
theorem tr_keep {st₀ t B : State} {L : List Loc} (h0 : st₀.heap = H) (e1 : B.heap = t.heap) (hS : va_S A0 H0 H locs) (hA : ∀ q, A q → A0 q) (hL : ∀ z ∈ L, A z.base) (hF : va_F A st₀ t) :
    (∀ q : Nat, q < H.size → ¬ A q → B.heap[q]? = H[q]?) ∧ va_S A0 H0 B.heap (locs ++ L) := by
  obtain ⟨f1, f2⟩ := hF
  rw [h0] at f1 f2
  rw [← e1] at f1
  have k : ∀ q : Nat, q < H.size → ¬ A q → B.heap[q]? = H[q]? := fun q h1 h2 => by rw [e1]; exact f2 q h1 h2
  refine ⟨k, Nat.le_trans hS.1 f1, fun q h1 h2 => ?_, fun z hz => ?_⟩
  · exact (k q (Nat.lt_of_lt_of_le h1 hS.1) (fun h => h2 (hA q h))).trans (hS.2.1 q h1 h2)
  · rcases List.mem_append.mp hz with h | h
    · exact hS.2.2 z h
    · exact hA _ (hL z h)
end TR3
/-! ===== my own rows, 2: cells changed in their places ===== -/
def setL : va_W → List Nat → va_W → va_W
  | ws, i :: is, w :: w1 => setL (ws.set i w) is w1
  | ws, _, _ => ws
theorem setL_fst : ∀ (is : List Nat) (ws w1 : va_W), is.map (fun i => (ws[i]?).map Prod.fst) = w1.map (fun w => some w.1) → (setL ws is w1).map Prod.fst = ws.map Prod.fst := by
  intro is
  induction is with
  | nil => intro ws w1 _; cases w1 <;> rfl
  | cons i is ih =>
    intro ws w1 h
    cases w1 with
    | nil => rfl
    | cons w w1 =>
      simp only [List.map_cons, List.cons.injEq] at h
      have e : (ws.set i w).map Prod.fst = ws.map Prod.fst := by
        apply List.ext_getElem?
        intro j
        rw [List.getElem?_map, List.getElem?_map, List.getElem?_set]
        by_cases hij : i = j
        · subst hij
          rw [h.1]
          obtain ⟨x, hx, -⟩ := Option.map_eq_some_iff.mp h.1
          have hl : i < ws.length := (List.getElem?_eq_some_iff.mp hx).1
          simp [hl]
        · rw [if_neg hij]
      show (setL (ws.set i w) is w1).map Prod.fst = _
      rw [ih (ws.set i w) w1 ?_, e]
      rw [← h.2]
      apply List.map_congr_left
      intro j _
      rw [← List.getElem?_map, ← List.getElem?_map, e]
theorem setL_get : ∀ (is : List Nat) (ws w1 : va_W), is.length = w1.length → ∀ (k : Nat) (q : Nat × va_E), (setL ws is w1)[k]? = some q → q ∈ w1 ∨ (ws[k]? = some q ∧ k ∉ is) := by
  intro is
  induction is with
  | nil => intro ws w1 h k q hq; exact Or.inr ⟨by cases w1 <;> exact hq, List.not_mem_nil⟩
  | cons i is ih =>
    intro ws w1 h k q hq
    cases w1 with
    | nil => simp at h
    | cons w w1 =>
      rcases ih (ws.set i w) w1 (by simpa using h) k q hq with h1 | ⟨h1, h2⟩
      · exact Or.inl (List.mem_cons_of_mem _ h1)
      · by_cases hik : i = k
        · subst hik
          rw [List.getElem?_set] at h1
          simp only [if_true] at h1
          by_cases hl : i < ws.length
          · rw [if_pos hl] at h1
            cases h1
            exact Or.inl List.mem_cons_self
          · rw [if_neg hl] at h1
            cases h1
        · rw [List.getElem?_set, if_neg hik] at h1
          exact Or.inr ⟨h1, fun hm => by
            rcases List.mem_cons.mp hm with h9 | h9
            · exact hik h9.symm
            · exact h2 h9⟩
theorem jn_set {A0 : Nat → Prop} {D : va_G} {cl : List vw_C} {ws wc w1 : va_W} {H H1 : Heap} (hP : va_P D cl ws H) (hD : va_D A0 ws) (is : List Nat) (hC : is.map (fun i => ws[i]?) = wc.map some) (had : w1.map Prod.fst = wc.map Prod.fst)
    (hk : ∀ q : Nat, q < H.size → ¬ va_A wc H.size q → H1[q]? = H[q]?) (hP1 : va_P D cl w1 H1) : va_P D cl (setL ws is w1) H1 ∧ va_D A0 (setL ws is w1) := by
  have hl : is.length = w1.length := by
    have h1 := congrArg List.length hC
    have h2 := congrArg List.length had
    simp only [List.length_map] at h1 h2
    omega
  have hf : (setL ws is w1).map Prod.fst = ws.map Prod.fst := by
    apply setL_fst
    have h1 : is.map (fun i => (ws[i]?).map Prod.fst) = (is.map (fun i => ws[i]?)).map (Option.map Prod.fst) := by rw [List.map_map]; rfl
    have h2 : w1.map (fun w => some w.1) = (w1.map Prod.fst).map some := by rw [List.map_map]; rfl
    rw [h1, hC, h2, had, List.map_map, List.map_map]
    rfl
  have ha : ∀ (k : Nat) (q : Nat × va_E), (setL ws is w1)[k]? = some q → ∃ e, ws[k]? = some (q.1, e) := by
    intro k q hq
    have h1 : ((setL ws is w1).map Prod.fst)[k]? = some q.1 := by rw [List.getElem?_map, hq]; rfl
    rw [hf, List.getElem?_map] at h1
    obtain ⟨x, hx, hx2⟩ := Option.map_eq_some_iff.mp h1
    exact ⟨x.2, by rw [hx, ← hx2]⟩
  refine ⟨fun k q hq => ?_, fun i j x y hi hj hxy => ?_, fun k q hq => ?_⟩
  · rcases setL_get is ws w1 hl k q hq with h1 | ⟨h1, h2⟩
    · obtain ⟨j, hj⟩ := List.getElem?_of_mem h1
      exact hP1 j q hj
    · refine (hP k q h1).kept (hk q.1 (hP k q h1).lt ?_)
      rintro (⟨j, e, hj⟩ | h9)
      · have h3 : (wc.map some)[j]? = some (some (q.1, e)) := by rw [List.getElem?_map, hj]; rfl
        rw [← hC, List.getElem?_map] at h3
        obtain ⟨i, hi, hi2⟩ := Option.map_eq_some_iff.mp h3
        have h4 := hD.1 i k (q.1, e) q hi2 h1 rfl
        exact h2 (h4 ▸ List.mem_of_getElem? hi)
      · exact absurd h9 (Nat.not_le.mpr (hP k q h1).lt)
  · obtain ⟨e1, h1⟩ := ha i x hi
    obtain ⟨e2, h2⟩ := ha j y hj
    exact hD.1 i j _ _ h1 h2 hxy
  · obtain ⟨e1, h1⟩ := ha k q hq
    exact hD.2 k (q.1, e1) h1
