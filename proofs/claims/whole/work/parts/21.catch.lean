/-! ===== my own rows, 6: an exception caught by the method's own table ===== -/
section CT1
/-- the search through rows of a table ends at the handler h; the tables may have grown warmer -/
def ct_ends (e : Env) (s₀ S : State) (f : JFrame) (a : Addr) (rows : List ExceptionTableEntry) (h : Nat) : Prop :=
  ∃ vm' : Vm, s₀.WarmedH vm' ∧ ∀ (Q : Handler → Pre) (E : CtlPost) (d : Bool) (acts : List Action), wp (findHandler.go f a rows) Q E e d acts S ↔ Q (.found h) d acts (S.setVm vm')
variable {e : Env} {s₀ S : State} {f : JFrame} {a : Addr} {x : ExceptionTableEntry} {rest : List ExceptionTableEntry} {cell : Cell} {c : ClassId}
/-- the row's class, linked: what the resolution gives, and what it leaves -/
theorem ct_link (hW : s₀.WarmedH S.vm) (hl : s₀.vm.ClassLinks e.platform f.method.cls x.catchType c) :
    s₀.WarmedH (S.vm.noted f.method.cls x.catchType (.cls c)) ∧ S.vm.ClassLinks e.platform f.method.cls x.catchType c ∧ (∃ k, (S.vm.noted f.method.cls x.catchType (.cls c)).classes[c]? = some k) := by
  obtain ⟨dk, _, _, kt, hd, _, _, _, _, hkt, _, hopen⟩ := hl.here
  obtain ⟨kt', hkt', -⟩ := hW.alike.2.2 _ _ hkt
  obtain ⟨kt2, hkt2, -⟩ := ((Vm.Alike.refl S.vm).noted f.method.cls x.catchType (.cls c)).2.2 _ _ hkt'
  exact ⟨hW.noted hd hopen (State.rightAt_cls hl), hW.classLinks hl, kt2, hkt2⟩
theorem ct_cls (hW : s₀.WarmedH S.vm) (hk : ∃ k, s₀.vm.classes[cell.cls]? = some k) : ∃ k, (S.vm.noted f.method.cls x.catchType (.cls c)).classes[cell.cls]? = some k := by
  obtain ⟨k, hk⟩ := hk
  obtain ⟨k1, hk1, -⟩ := hW.alike.2.2 _ _ hk
  obtain ⟨k2, hk2, -⟩ := ((Vm.Alike.refl S.vm).noted f.method.cls x.catchType (.cls c)).2.2 _ _ hk1
  exact ⟨k2, hk2⟩
theorem ct_asg (hW : s₀.WarmedH S.vm) (t : ClassId) : (S.vm.noted f.method.cls x.catchType (.cls c)).assignable t c = s₀.vm.assignable t c := by
  rw [((Vm.Alike.refl S.vm).noted f.method.cls x.catchType (.cls c)).assignable, hW.alike.assignable]
theorem ct_hit (hW : s₀.WarmedH S.vm) (hx : covers x f.pc = true) (h0 : x.catchType ≠ 0) (hl : s₀.vm.ClassLinks e.platform f.method.cls x.catchType c) (hcell : S.heap[a]? = some cell) (hobj : ∀ k, cell.vm ≠ .statics k) (hk : ∃ k, s₀.vm.classes[cell.cls]? = some k)
    (hfit : s₀.vm.assignable cell.cls c = true) : ct_ends e s₀ S f a (x :: rest) x.handlerPc := by
  obtain ⟨w1, w2, k2, hk2⟩ := ct_link hW hl
  obtain ⟨k1, hk1⟩ := ct_cls (f := f) (x := x) (c := c) hW hk
  have hf := (ct_asg (f := f) (x := x) (c := c) hW cell.cls).trans hfit
  obtain ⟨ha, ht⟩ := (resolveClass_links e.toSetting w2).op (op := VmOp.resolveClass f.method.cls x.catchType) rfl
  refine ⟨_, w1, fun Q E d acts => ?_⟩
  simp only [covers] at hx
  simp [findHandler.go, hx, h0, ha, ht, hcell, hobj, hk1, hk2, hf, VmOp.dirties, VmOp.acts]
theorem ct_miss (hW : s₀.WarmedH S.vm) {h : Nat} (hx : covers x f.pc = true) (h0 : x.catchType ≠ 0) (hl : s₀.vm.ClassLinks e.platform f.method.cls x.catchType c) (hcell : S.heap[a]? = some cell) (hobj : ∀ k, cell.vm ≠ .statics k) (hk : ∃ k, s₀.vm.classes[cell.cls]? = some k)
    (hno : s₀.vm.assignable cell.cls c = false) (go : ∀ S' : State, s₀.WarmedH S'.vm → S'.heap = S.heap → ct_ends e s₀ S' f a rest h) : ct_ends e s₀ S f a (x :: rest) h := by
  obtain ⟨w1, w2, k2, hk2⟩ := ct_link hW hl
  obtain ⟨k1, hk1⟩ := ct_cls (f := f) (x := x) (c := c) hW hk
  have hf := (ct_asg (f := f) (x := x) (c := c) hW cell.cls).trans hno
  obtain ⟨ha, ht⟩ := (resolveClass_links e.toSetting w2).op (op := VmOp.resolveClass f.method.cls x.catchType) rfl
  obtain ⟨vm', w3, go'⟩ := go (S.setVm (S.vm.noted f.method.cls x.catchType (.cls c))) w1 rfl
  refine ⟨vm', w3, fun Q E d acts => ?_⟩
  have h9 := go' Q E d acts
  simp only [covers] at hx
  simp [findHandler.go, hx, h0, ha, ht, hcell, hobj, hk1, hk2, hf, VmOp.dirties, VmOp.acts]
  exact h9
end CT1
section CT2
variable {p : Program} {l : Launch} {e : Env} {R : Room} {s : State} {m : MethodId} {args : Array Value} {below : List Frame} {meth : Method} {c : Code} {H : Heap} {locs : List Loc} {cells slots : Nat} {Q : State → Prop}
/-- into the handler -/
theorem ct_go {pc : Nat} {ls : Array Slot} {rest : List Value} {q : Addr} {h : Nat} (hf : ∀ S : State, s.WarmedH S.vm → S.heap = H → ct_ends e s S (F0 m pc ls rest) q c.exceptionTable.toList h)
    (kk : W p l e R s m args below meth c H locs cells slots Q (F0 m h ls [.ref q])) : tr_W p l e R s m args below meth c H locs cells slots Q (F0 m pc ls rest) q := by
  intro T hT Y
  obtain ⟨vm', w1, w2⟩ := hf ((T.setTop (F0 m pc ls rest)).pushFrame (.throwing q)) Y.warmed hT
  obtain ⟨t, a1, b1⟩ := kk (T.setVm vm') hT (Y.noted w1)
  refine ⟨t, ?_, b1⟩
  have hAt : At T (F0 m pc ls rest).method c below := Y.here
  obtain ⟨hgo, hw⟩ := hAt.throwing q
  refine Steps.head hgo hw ?_
  have hm : ((T.setTop (F0 m pc ls rest)).pushFrame (.throwing q)).vm.method? (F0 m pc ls rest).method = some meth := Y.method'
  obtain ⟨g₀, hg0⟩ := Option.isSome_iff_exists.mp hAt.top
  obtain ⟨r, hr⟩ := State.topJava?_eq_some.mp hg0
  have hfind : ∀ (Q : Handler → Pre) (E : CtlPost) (d : Bool) (acts : List Action), wp (findHandler (F0 m pc ls rest) q) Q E e d acts ((T.setTop (F0 m pc ls rest)).pushFrame (.throwing q)) ↔ Q (.found h) d acts (((T.setTop (F0 m pc ls rest)).pushFrame (.throwing q)).setVm vm') := fun Q E d acts => by rw [W.findHandler_eq hm Y.code, w2]
  have hstep : (stepThrowing e ((T.setTop (F0 m pc ls rest)).pushFrame (.throwing q)) q (.java (F0 m pc ls rest) :: T.frames.tail)).1 = (((T.setTop (F0 m pc ls rest)).pushFrame (.throwing q)).setVm vm').setFrames (.java { F0 m pc ls rest with pc := h, stack := [.ref q] } :: T.frames.tail) := by
    simp only [stepThrowing, searchFrame, vmDo]
    generalize hres : Sem.go _ e false [] ((T.setTop (F0 m pc ls rest)).pushFrame (.throwing q)) = res
    obtain ⟨as, rfl, ha⟩ := Sem.eq_ok_of hres (a := Handler.found h) (s' := ((T.setTop (F0 m pc ls rest)).pushFrame (.throwing q)).setVm vm') (acts' := []) (by simp [hfind])
    rfl
  rw [stepThread_throwing (frames_entered hAt.top _), hstep]
  have hr' : (T.setVm vm').frames = .java g₀ :: r := hr
  have e1 : ((T.setTop (F0 m pc ls rest)).pushFrame (.throwing q)).setVm vm' = (T.setVm vm').setFrames (.throwing q :: .java (F0 m pc ls rest) :: r) := by
    rw [State.pushFrame, State.frames_setTop _ hr, State.setTop_of_frames _ hr, State.setFrames_setFrames]
    rfl
  rw [e1, State.setFrames_setFrames, hr, List.tail_cons]
  rw [State.setTop_of_frames _ hr'] at a1
  exact a1
/-- a row of the table that takes it: the first -/
theorem ct_1 {own name E : String} {pc : Nat} {ls : Array Slot} {rest : List Value} {q : Addr} {ce : Cell} {x : ExceptionTableEntry} {more : List ExceptionTableEntry} (hown : s.vm.findClass own = some m.cls) (htb : c.exceptionTable.toList = x :: more) (hx : covers x pc = true) (h0 : x.catchType ≠ 0)
    (hlink : (Cond.classLink own x.catchType name).before args s = true) (hcast : (Cond.castable E name).before args s = true) (hcell : H[q]? = some ce) (hv : ce.vm = .none) (hcl : s.vm.findClass E = some ce.cls)
    (kk : W p l e R s m args below meth c H locs cells slots Q (F0 m x.handlerPc ls [.ref q])) : tr_W p l e R s m args below meth c H locs cells slots Q (F0 m pc ls rest) q := by
  intro T hT Y
  have hpl : e.platform.magicAccessors = ({} : Platform).magicAccessors := by rw [Y.admits.platform]
  obtain ⟨c3, c4, hc3, hc4, hasg⟩ := Cond.castable_spec hcast
  cases Option.some.inj (hc3.symm.trans hcl)
  obtain ⟨c5, hc5, hl5⟩ := Cond.classLink_spec hown hlink e.platform hpl
  cases Option.some.inj (hc4.symm.trans hc5)
  refine ct_go (h := x.handlerPc) (fun S hW hS => ?_) kk T hT Y
  rw [htb]
  exact ct_hit hW hx h0 hl5 (by rw [hS]; exact hcell) (fun k => by rw [hv]; exact fun h => by cases h) (by obtain ⟨k9, h9, -⟩ := Vm.findClass_spec hcl; exact ⟨k9, h9⟩) hasg
/-- .. the second, the first passing it by -/
theorem ct_2 {own n1 n2 E : String} {pc : Nat} {ls : Array Slot} {rest : List Value} {q : Addr} {ce : Cell} {x y : ExceptionTableEntry} {more : List ExceptionTableEntry} (hown : s.vm.findClass own = some m.cls) (htb : c.exceptionTable.toList = x :: y :: more) (hx : covers x pc = true) (h0 : x.catchType ≠ 0) (hy : covers y pc = true) (h1 : y.catchType ≠ 0)
    (hl1 : (Cond.classLink own x.catchType n1).before args s = true) (hn : va_Nc E n1 s) (hl2 : (Cond.classLink own y.catchType n2).before args s = true) (hcast : (Cond.castable E n2).before args s = true) (hcell : H[q]? = some ce) (hv : ce.vm = .none) (hcl : s.vm.findClass E = some ce.cls)
    (kk : W p l e R s m args below meth c H locs cells slots Q (F0 m y.handlerPc ls [.ref q])) : tr_W p l e R s m args below meth c H locs cells slots Q (F0 m pc ls rest) q := by
  intro T hT Y
  have hpl : e.platform.magicAccessors = ({} : Platform).magicAccessors := by rw [Y.admits.platform]
  obtain ⟨c3, c4, hc3, hc4, hasg⟩ := Cond.castable_spec hcast
  cases Option.some.inj (hc3.symm.trans hcl)
  obtain ⟨c5, hc5, hl5⟩ := Cond.classLink_spec hown hl2 e.platform hpl
  cases Option.some.inj (hc4.symm.trans hc5)
  obtain ⟨c6, hc6, hl6⟩ := Cond.classLink_spec hown hl1 e.platform hpl
  obtain ⟨a8, b8, q1, q2, q3⟩ := hn
  cases Option.some.inj (q1.symm.trans hcl)
  cases Option.some.inj (q2.symm.trans hc6)
  have hob : ∀ k, ce.vm ≠ .statics k := fun k => by rw [hv]; exact fun h => by cases h
  have hkk : ∃ k, s.vm.classes[ce.cls]? = some k := by obtain ⟨k9, h9, -⟩ := Vm.findClass_spec hcl; exact ⟨k9, h9⟩
  refine ct_go (h := y.handlerPc) (fun S hW hS => ?_) kk T hT Y
  rw [htb]
  exact ct_miss hW hx h0 hl6 (by rw [hS]; exact hcell) hob hkk q3 (fun S' hW' hS' => ct_hit hW' hy h1 hl5 (by rw [hS', hS]; exact hcell) hob hkk hasg)
end CT2
section CT3
variable {p : Program} {l : Launch} {e : Env} {R : Room} {s : State} {m : MethodId} {args : Array Value} {below : List Frame} {meth : Method} {c : Code} {H : Heap} {locs : List Loc} {cells slots : Nat} {Q : State → Prop}
variable {Ts ws ws' : List Cond} {cc bytes : ByteArray} {nL maxL index n mc ms pc : Nat} {own : String} {y : MethodName} {ret : Option FieldType} {rm : Room} {Pc : Array Value → State → Prop} {Qc : Array Value → State → Outcome → State → Prop} {free : Nat → Prop} {hh : List (Nat × Nat × Nat × Nat)}
variable {As rest : List Value} {g : JFrame}
/-- a static call of a method that has a table of its own -/
theorem ct_runS (S : CallFix p m c cc nL s args Ts own) (hM : Met l y ws rm Pc Qc mc ms free) (hrc : rm.cells = mc) (hrs : rm.slots = ms) (hfr : rm.frames + 1 ≤ R.frames) (hlo : 8 + (maxL + 11) + rm.locals ≤ R.locals) (hG : GoodIn Ts ws) (hw : ws = Cond.codeWith y bytes maxL ret hh :: ws')
    (hl : (Cond.methodLink own index y).before args s = true) (hst : (Cond.static y).before args s = true) (hini : (Cond.initialized y.cls).before args s = true) (hy : y.cls ≠ "java/lang/invoke/MethodHandle" ∧ y.cls ≠ "java/lang/invoke/VarHandle" ∧ (parseMethodDescriptor y.desc).map (fun d => d.parameters.length) = some n) (hp : PreS s H Pc As)
    (hg : g.method = m) (hn : As.length = n) (hsize : g.locals.size = nL) (hstack : g.stack = As.reverse ++ rest) (hW : 2 * g.monitorRoom + (rest.map fun v => v.category).sum ≤ 8) (hdg : decode cc g.pc = .ok (.invokestatic index, 3)) (hf : cells + mc ≤ R.cells ∧ slots + ms ≤ R.slots) :
    va_Run p l e R s m args below meth c H locs cells slots mc ms g rest (Qc As.toArray) free := by
  obtain ⟨hx, hb, hml, hown, ht⟩ := S
  intro T hT Y
  have hcw : Cond.codeWith y bytes maxL ret hh ∈ ws := by rw [hw]; exact List.mem_cons_self
  have hK : Back l R p e below s args y 3 8 (PreOf R mc ms Pc) (PostOf Qc mc ms free) :=
    va_backW (hh := hh) (bytes := bytes) (maxL := maxL) (ret := ret) hM hp.1 hrc hrs hfr hlo (pay_in ht hG) hcw (fun a' U hW => word_at hW (Or.inl (by first | rfl | simp [Cond.onTables, Cond.keeps, Cond.steady])) hini)
  obtain ⟨mk, methM, cM, hnamed, hmethM, -, -, -, -, -, -, hsigM⟩ := Cond.codeWith_spec (ht _ (hG _ hcw).1)
  have hstatic : methM.isStatic = true := Cond.static_spec hnamed hmethM hst
  obtain ⟨kP, hkP, -⟩ := className_of_methodNamed hnamed
  have hinitP : kP.init = .initialized := Cond.initialized_spec (findClass_of_methodNamed hnamed) hkP hini
  have hdg' : decode c.code g.pc = .ok (.invokestatic index, 3) := by rw [hb]; exact hdg
  have hlen : As.length = methM.sig.parameters.length := by
    have h2 := hy.2.2
    rw [hsigM] at h2
    rw [hn]
    exact (Option.some.inj h2).symm
  obtain ⟨vm₁, X₁, hstep₁⟩ := Y.invokestatic hx hown hl hnamed hmethM hstatic hkP hinitP ⟨hy.1, hy.2.1⟩ (g := g) hg (argsL := As) (rest := rest) hlen hstack hdg'
  obtain ⟨v, ⟨U', l2, c2, s2⟩, X', ⟨g', mk', t, L, e1, e2, hq, h1, hL, h2, h3⟩, hsteps⟩ := hK m meth c ⟨T.setVm vm₁, locs, cells, slots⟩ { g with stack := rest } (.invokestatic index) mk As.toArray X₁ hg (hsize.trans hml.symm) hdg' hW (X₁.named hnamed) ⟨hf.1, hf.2, hp.2 (T.setVm vm₁) hT X₁.warmed⟩
  dsimp only [Pt.U, Pt.locs, Pt.cells, Pt.slots] at X' e1 e2 h1 h2 h3 hsteps
  subst h1; subst h2; subst h3
  exact ⟨v, (T.setVm vm₁).calling g' mk' As.toArray, t, U', L, hT, X', hL, e1, e2, hq, fun tg h9 => hstep₁ _ fun acts => by rw [doInvoke_state]; exact hsteps.trans h9⟩
/-- the table that the word names -/
theorem ct_table {s₁ : State} (B : BodyLoose p l y (headSpec ws rm) cc maxL ret e s m args below meth c s₁) (hw : ws = Cond.codeWith y cc maxL ret hh :: ws') : c.exceptionTable.toList.map (fun h => (h.startPc, h.endPc, h.handlerPc, h.catchType)) = hh := by
  obtain ⟨m9, meth9, c9, hn9, h1, h2, -, -, h3, -⟩ := Cond.codeWith_spec (atoms_spec (ws := ws) B.pre _ (by rw [hw]; exact List.mem_cons_self))
  cases B.named.symm.trans hn9
  cases B.method.symm.trans h1
  cases (Stand.of_body B).code.symm.trans h2
  exact h3
end CT3
