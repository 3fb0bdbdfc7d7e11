/-! ===== what holds wherever a method starts: words, classes, statics ===== -/
abbrev cxT : Type := va_G × (Nat → ClassId) × (Nat → Nat)
def tyL (G : cxT) : List (ClassId × FieldType) := [(G.2.1 0, .int), (G.2.1 1, .byte), (G.2.1 2, .boolean), (G.2.1 3, .long)]
/-- the words on Throwable's statics, which speak of the heap -/
def hw0 : List Cond := [.isRef (.static Bundle.tN "UNASSIGNED_STACK" Bundle.steD), .isRef (.static Bundle.tN "SUPPRESSED_SENTINEL" Bundle.listD), .laysStatic Bundle.tN "UNASSIGNED_STACK" Bundle.steD, .laysStatic Bundle.tN "SUPPRESSED_SENTINEL" Bundle.listD]
/-- words that warmer tables keep, by laws of their own -/
def xok : Cond → Bool
  | .declares _ => true
  | .castable _ _ => true
  | _ => false
def hw4 : List Cond := hw0 ++ lw_tbl.filter xok
def strL : List (Nat × String) := [(108, "no such memory or load operator"), (175, "beyond an end"), (126, "no such memory or store operator"), (132, "no such memory"), (134, "no such memory or segment"), (144, "no such segment"), (156, "no such table"), (161, "no such table or reference"), (166, "no such table or another type"), (168, "no such table or segment")]
/-- the class's two tables of widths -/
def wLoad : Nat → Int32 := fun j => ([4, 8, 4, 8, 1, 1, 2, 2, 1, 1, 2, 2, 4, 4] : List Int32).getD j 0
def wStore : Nat → Int32 := fun j => ([4, 8, 4, 8, 1, 2, 1, 2, 4] : List Int32).getD j 0
abbrev E_ill : String := "java/lang/IllegalArgumentException"
abbrev E_uns : String := "java/lang/UnsupportedOperationException"
def cxP (G : cxT) (A : Nat → Prop) (V : State) : Prop :=
  (∀ (a : Array Value) (w : Cond), w ∈ bw → w.before a V = true) ∧ va_K G.1 vwC (tyL G) V ∧ (∀ (a : Array Value) (w : Cond), w ∈ hw4 → w.before a V = true) ∧ (∀ q ∈ strL, ∃ sa, vk_R R_Pm q.1 q.2 sa V) ∧
  (va_Z R_Pm "LOAD_WIDTHS" "[I" (.ref (G.2.2 0)) A V V.heap ∧ va_T .int (G.2.2 0) 14 (fun j => .int (wLoad j)) A V V.heap) ∧
  (va_Z R_Pm "STORE_WIDTHS" "[I" (.ref (G.2.2 1)) A V V.heap ∧ va_T .int (G.2.2 1) 9 (fun j => .int (wStore j)) A V V.heap) ∧ va_Nc E_uns E_ill V
theorem cxP.narrow {G : cxT} {A B : Nat → Prop} {V : State} (h : cxP G A V) (hB : ∀ q, B q → A q) : cxP G B V := by
  obtain ⟨h1, h2, h3, h4, ⟨h5, h6⟩, ⟨h7, h8⟩, h9⟩ := h
  exact ⟨h1, h2, h3, h4, ⟨h5.narrow hB, h6.narrow hB⟩, ⟨h7.narrow hB, h8.narrow hB⟩, h9⟩
def cx (G : cxT) (A : Nat → Prop) (U : State) : Prop := ps (cxP G A) A U U.heap
theorem cx.now {G : cxT} {A : Nat → Prop} {U : State} (h : cx G A U) : cxP G A U := ps.now h
theorem cx.imp {G : cxT} {A : Nat → Prop} {U : State} {Ψ : State → Prop} (h : cx G A U) (f : ∀ V, cxP G A V → Ψ V) : ps Ψ A U U.heap := fun V h1 h2 h3 => f V (h V h1 h2 h3)
theorem cx.go {G : cxT} {A B : Nat → Prop} {s U : State} {H : Heap} {locs : List Loc} (h : cx G A s) (hU : U.heap = H) (hW : s.WarmedH U.vm) (hS : va_S A s.heap H locs) (hB : ∀ q, B q → A q) : cx G B U := by
  subst hU
  intro Z hZ hz hk
  exact (h Z (State.WarmedH.trans hW hZ) (Nat.le_trans hS.1 hz) (fun a ha hA => (hk a (Nat.lt_of_lt_of_le ha hS.1) (fun b => hA (hB _ b))).trans (hS.2.1 a ha hA))).narrow hB
/-- a start of a method that changes nothing -/
def cp (G : cxT) (av : List Value) (ws : va_W) : Array Value → State → Prop := va_Pc av (fun U => cx G (fun _ => False) U ∧ va_P G.1 vwC ws U.heap)
theorem cp_blind {G : cxT} {av : List Value} {ws : va_W} : FrameBlind (cp G av ws) := fun _ _ _ _ h => ⟨h.1, fun Z hZ hz hk => h.2.1 Z hZ hz hk, h.2.2⟩
theorem cp_pre {G : cxT} {A : Nat → Prop} {s : State} {H : Heap} {locs : List Loc} {av : List Value} {ws : va_W} (hcx : cx G A s) (hS : va_S A s.heap H locs) (hP : va_P G.1 vwC ws H) : ∀ U : State, U.heap = H → s.WarmedH U.vm → cp G av ws av.toArray U :=
  fun U hU hW => ⟨rfl, hcx.go hU hW hS (fun _ h => h.elim), by rw [hU]; exact hP⟩
/-- a start of a method that may change its cells, and make new ones -/
def cm (G : cxT) (av : List Value) (ws : va_W) (sz : Nat) : Array Value → State → Prop := va_Pc av (fun U => U.heap.size = sz ∧ cx G (va_A ws sz) U ∧ va_P G.1 vwC ws U.heap ∧ va_D (fun _ => True) ws)
theorem cm_blind {G : cxT} {av : List Value} {ws : va_W} {sz : Nat} : FrameBlind (cm G av ws sz) := fun _ _ _ _ h => ⟨h.1, h.2.1, fun Z hZ hz hk => h.2.2.1 Z hZ hz hk, h.2.2.2⟩
theorem cm_pre {G : cxT} {A : Nat → Prop} {s : State} {H : Heap} {locs : List Loc} {av : List Value} {ws : va_W} (hcx : cx G A s) (hS : va_S A s.heap H locs) (hP : va_P G.1 vwC ws H) (hD : va_D A ws) (hF : ∀ q, va_A ws H.size q → A q) : ∀ U : State, U.heap = H → s.WarmedH U.vm → cm G av ws H.size av.toArray U :=
  fun U hU hW => ⟨rfl, by rw [hU], hcx.go hU hW hS hF, by rw [hU]; exact hP, hD.weaken (fun _ _ _ _ => trivial)⟩
/-- a method without a table of its own catches nothing -/
theorem tr_nt {p : Program} {l : Launch} {y : MethodName} {ws ws' : List Cond} {rm : Room} {cc : ByteArray} {maxL : Nat} {ret : Option FieldType} {e : Env} {s : State} {m : MethodId} {args : Array Value} {below : List Frame} {meth : Method} {c : Code} {s₁ : State}
    (B : BodyLoose p l y (headSpec ws rm) cc maxL ret e s m args below meth c s₁) (hw : ws = Cond.code y cc maxL ret :: ws') : ∀ (pc : Nat), ∀ x ∈ c.exceptionTable.toList, covers x pc = false := by
  have h := BodyLoose.noHandlers B (atoms_spec (ws := ws) B.pre _ (by rw [hw]; exact List.mem_cons_self))
  intro pc x hx
  have h9 : c.exceptionTable = #[] := by simpa using h
  rw [h9] at hx
  cases hx
/-- a call's words -/
theorem gi_V {own C : String} {idx maxL : Nat} {y : MethodName} {bytes : ByteArray} {ret : Option FieldType} (h1 : Cond.methodLink own idx y ∈ bw) (h2 : Cond.instanceMethod y ∈ bw) (h3 : Cond.selects C y y ∈ bw) (h4 : Cond.initialized C ∈ bw) (h5 : Cond.code y bytes maxL ret ∈ bw) : GoodIn bw (wsV own idx C y [.code y bytes maxL ret]) := by
  intro w hw
  have hm : w ∈ bw := by
    simp only [wsV, List.cons_append, List.nil_append, List.mem_cons, List.not_mem_nil, or_false] at hw
    rcases hw with rfl | rfl | rfl | rfl | rfl <;> assumption
  exact ⟨hm, good_of_word (bw_good w hm)⟩
theorem gi_S {own : String} {idx maxL : Nat} {y : MethodName} {bytes : ByteArray} {ret : Option FieldType} (h1 : Cond.methodLink own idx y ∈ bw) (h2 : Cond.static y ∈ bw) (h4 : Cond.initialized y.cls ∈ bw) (h5 : Cond.code y bytes maxL ret ∈ bw) : GoodIn bw (va_wsS own idx y [.code y bytes maxL ret]) := by
  intro w hw
  have hm : w ∈ bw := by
    simp only [va_wsS, List.cons_append, List.nil_append, List.mem_cons, List.not_mem_nil, or_false] at hw
    rcases hw with rfl | rfl | rfl | rfl <;> assumption
  exact ⟨hm, good_of_word (bw_good w hm)⟩
theorem gi_1 {y : MethodName} {bytes : ByteArray} {maxL : Nat} {ret : Option FieldType} (h5 : Cond.code y bytes maxL ret ∈ bw) : GoodIn bw [.code y bytes maxL ret] := by
  intro w hw
  obtain rfl := List.mem_singleton.mp hw
  exact ⟨h5, good_of_word (bw_good _ h5)⟩
