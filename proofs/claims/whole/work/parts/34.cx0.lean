/-! ===== the law's entry: the context holds ===== -/
theorem zs_ls {C n d : String} {av : Array Value} {s Z : State} (hZ : s.WarmedH Z.vm) (hk : ∀ a : Nat, a < s.heap.size → Z.heap[a]? = s.heap[a]?) (a : Array Value) (hl : (Cond.laysStatic C n d).before av s = true) : (Cond.laysStatic C n d).before a Z = true := by
  obtain ⟨c, k, i, f, q, cell, hc, hi, hst, ha, hcell, hs, hcls, hlt, hty⟩ := Cond.laysStatic_spec (Cond.laysStatic_setVm hZ.alike hl)
  exact Cond.laysStatic_of (s := Z) hc hi hst ha ((hk q (Array.getElem?_eq_some_iff.mp hcell).1).trans hcell) hs hcls hlt hty
theorem zs_ev {C n d : String} {v : Value} {A : Nat → Prop} {Z : State} (h : va_Z C n d v A Z Z.heap) (a : Array Value) : (Term.static C n d).eval a Z none [] Z = some v := by
  obtain ⟨cf, kf, fi, f, q, cell, h1, h2, h3, h4, h5, h6, h7, h8⟩ := h
  simp [Term.eval, State.fieldNamed?, h1, h2, h4, h5, h6, h7]
theorem zs_ref {C n d : String} {A : Nat → Prop} {Z : State} (h : va_Zq C n d A Z Z.heap) (a : Array Value) : (Cond.isRef (.static C n d)).before a Z = true := by
  rcases h with h | ⟨t, h⟩
  · simp [Cond.before, Cond.holds, Cond.value, zs_ev h a]
  · simp [Cond.before, Cond.holds, Cond.value, zs_ev h a]
theorem zs_x {w : Cond} (hx : xok w = true) {av : Array Value} {s Z : State} (hZ : s.WarmedH Z.vm) (a : Array Value) (h : w.before av s = true) : w.before a Z = true := by
  cases w <;> first | (simp [xok] at hx; done) | skip
  · exact va_tabs (c := .declares _) rfl (u := s.setVm Z.vm) (U := Z) rfl (Cond.faceAtom_setVm hZ.alike _ rfl h)
  · exact va_tabs (c := .castable _ _) rfl (u := s.setVm Z.vm) (U := Z) rfl (Cond.faceAtom_setVm hZ.alike _ rfl h)
theorem zs_str {own tx : String} {k : Nat} {av : Array Value} {s : State} (h1 : (Cond.stringRef own k tx).before av s = true) (h2 : (Cond.exactly (.string own k) "java/lang/String").before av s = true) : ∃ sa, vk_R own k tx sa s := by
  obtain ⟨a, c, cell, k', h, -⟩ := Cond.exactly_spec h2
  exact ⟨a, vk_R.of h1 h⟩
theorem zs_arr {t : FieldType} {av : Array Value} {s : State} (h : (Cond.arrayClass t).before av s = true) (ho : ∀ (cA : ClassId), s.vm.findClass ("[" ++ t.toString) = some cA → va_RA s cA t) : ∃ cA, ArrOfT s cA t ∧ va_RA s cA t := by
  obtain ⟨cA, k, comp, h1, h2, h3⟩ := Cond.arrayClass_spec h
  exact ⟨cA, fun n z => ⟨(fun k h => by cases h), k, h2, comp, h3⟩, ho cA h1⟩
theorem zs_wLoad {s : State} {av : Array Value} {A : Nat → Prop} (hts : ∀ w ∈ lw_tbl, w.before av s = true) (hg : ∀ c ∈ flatC (Jvm.Cond.and given_1 narrow_1), c.before av s = true) (hA : ∀ a : Nat, a < s.heap.size → ¬ A a) : ∃ t : Nat, va_Z R_Pm "LOAD_WIDTHS" "[I" (.ref t) A s s.heap ∧ va_T .int t 14 (fun j => .int (wLoad j)) A s s.heap := by
  have hel : ∀ j : Nat, j < 14 → (Term.elem (.static "PagedMemory" "LOAD_WIDTHS" "[I") (.int (Int32.ofNat j))).eval av s none [] s = some (.int (wLoad j)) := by
    intro j hj
    match j, hj with
    | 0, _ => exact va_eqt (hg (.eq (.elem (.static "PagedMemory" "LOAD_WIDTHS" "[I") (.int 0)) (.int 4)) (by decide +kernel))
    | 1, _ => exact va_eqt (hg (.eq (.elem (.static "PagedMemory" "LOAD_WIDTHS" "[I") (.int 1)) (.int 8)) (by decide +kernel))
    | 2, _ => exact va_eqt (hg (.eq (.elem (.static "PagedMemory" "LOAD_WIDTHS" "[I") (.int 2)) (.int 4)) (by decide +kernel))
    | 3, _ => exact va_eqt (hg (.eq (.elem (.static "PagedMemory" "LOAD_WIDTHS" "[I") (.int 3)) (.int 8)) (by decide +kernel))
    | 4, _ => exact va_eqt (hg (.eq (.elem (.static "PagedMemory" "LOAD_WIDTHS" "[I") (.int 4)) (.int 1)) (by decide +kernel))
    | 5, _ => exact va_eqt (hg (.eq (.elem (.static "PagedMemory" "LOAD_WIDTHS" "[I") (.int 5)) (.int 1)) (by decide +kernel))
    | 6, _ => exact va_eqt (hg (.eq (.elem (.static "PagedMemory" "LOAD_WIDTHS" "[I") (.int 6)) (.int 2)) (by decide +kernel))
    | 7, _ => exact va_eqt (hg (.eq (.elem (.static "PagedMemory" "LOAD_WIDTHS" "[I") (.int 7)) (.int 2)) (by decide +kernel))
    | 8, _ => exact va_eqt (hg (.eq (.elem (.static "PagedMemory" "LOAD_WIDTHS" "[I") (.int 8)) (.int 1)) (by decide +kernel))
    | 9, _ => exact va_eqt (hg (.eq (.elem (.static "PagedMemory" "LOAD_WIDTHS" "[I") (.int 9)) (.int 1)) (by decide +kernel))
    | 10, _ => exact va_eqt (hg (.eq (.elem (.static "PagedMemory" "LOAD_WIDTHS" "[I") (.int 10)) (.int 2)) (by decide +kernel))
    | 11, _ => exact va_eqt (hg (.eq (.elem (.static "PagedMemory" "LOAD_WIDTHS" "[I") (.int 11)) (.int 2)) (by decide +kernel))
    | 12, _ => exact va_eqt (hg (.eq (.elem (.static "PagedMemory" "LOAD_WIDTHS" "[I") (.int 12)) (.int 4)) (by decide +kernel))
    | 13, _ => exact va_eqt (hg (.eq (.elem (.static "PagedMemory" "LOAD_WIDTHS" "[I") (.int 13)) (.int 4)) (by decide +kernel))
    | j + 14, hj => omega
  obtain ⟨t, ht, hT⟩ := va_Tof (args := av) (s := s) (tm := .static "PagedMemory" "LOAD_WIDTHS" "[I") (ty := .int) (N := 14) (f := fun j => .int (wLoad j)) (A := A) (by decide) (hg _ (by decide +kernel)) (va_eqt (hg (.eq (.length (.static "PagedMemory" "LOAD_WIDTHS" "[I")) (.int 14)) (by decide +kernel))) hel hA
  exact ⟨t, va_Zof (hts _ (by decide +kernel)) (hts _ (by decide +kernel)) ht hA, hT⟩
theorem zs_wStore {s : State} {av : Array Value} {A : Nat → Prop} (hts : ∀ w ∈ lw_tbl, w.before av s = true) (hg : ∀ c ∈ flatC (Jvm.Cond.and given_1 narrow_1), c.before av s = true) (hA : ∀ a : Nat, a < s.heap.size → ¬ A a) : ∃ t : Nat, va_Z R_Pm "STORE_WIDTHS" "[I" (.ref t) A s s.heap ∧ va_T .int t 9 (fun j => .int (wStore j)) A s s.heap := by
  have hel : ∀ j : Nat, j < 9 → (Term.elem (.static "PagedMemory" "STORE_WIDTHS" "[I") (.int (Int32.ofNat j))).eval av s none [] s = some (.int (wStore j)) := by
    intro j hj
    match j, hj with
    | 0, _ => exact va_eqt (hg (.eq (.elem (.static "PagedMemory" "STORE_WIDTHS" "[I") (.int 0)) (.int 4)) (by decide +kernel))
    | 1, _ => exact va_eqt (hg (.eq (.elem (.static "PagedMemory" "STORE_WIDTHS" "[I") (.int 1)) (.int 8)) (by decide +kernel))
    | 2, _ => exact va_eqt (hg (.eq (.elem (.static "PagedMemory" "STORE_WIDTHS" "[I") (.int 2)) (.int 4)) (by decide +kernel))
    | 3, _ => exact va_eqt (hg (.eq (.elem (.static "PagedMemory" "STORE_WIDTHS" "[I") (.int 3)) (.int 8)) (by decide +kernel))
    | 4, _ => exact va_eqt (hg (.eq (.elem (.static "PagedMemory" "STORE_WIDTHS" "[I") (.int 4)) (.int 1)) (by decide +kernel))
    | 5, _ => exact va_eqt (hg (.eq (.elem (.static "PagedMemory" "STORE_WIDTHS" "[I") (.int 5)) (.int 2)) (by decide +kernel))
    | 6, _ => exact va_eqt (hg (.eq (.elem (.static "PagedMemory" "STORE_WIDTHS" "[I") (.int 6)) (.int 1)) (by decide +kernel))
    | 7, _ => exact va_eqt (hg (.eq (.elem (.static "PagedMemory" "STORE_WIDTHS" "[I") (.int 7)) (.int 2)) (by decide +kernel))
    | 8, _ => exact va_eqt (hg (.eq (.elem (.static "PagedMemory" "STORE_WIDTHS" "[I") (.int 8)) (.int 4)) (by decide +kernel))
    | j + 9, hj => omega
  obtain ⟨t, ht, hT⟩ := va_Tof (args := av) (s := s) (tm := .static "PagedMemory" "STORE_WIDTHS" "[I") (ty := .int) (N := 9) (f := fun j => .int (wStore j)) (A := A) (by decide) (hg _ (by decide +kernel)) (va_eqt (hg (.eq (.length (.static "PagedMemory" "STORE_WIDTHS" "[I")) (.int 9)) (by decide +kernel))) hel hA
  exact ⟨t, va_Zof (hts _ (by decide +kernel)) (hts _ (by decide +kernel)) ht hA, hT⟩
theorem cx0_ok {s : State} {av : Array Value} (hts : ∀ w ∈ lw_tbl, w.before av s = true) (hgv : (Jvm.Cond.and given_1 narrow_1).before av s = true) : ∃ G : cxT, cx G (fun q => s.heap.size ≤ q) s := by
  have hg := flat_of_before _ hgv
  have hA : ∀ a : Nat, a < s.heap.size → ¬ (fun q : Nat => s.heap.size ≤ q) a := fun a h => Nat.not_le.mpr h
  obtain ⟨c0, i0, hK0⟩ := u_known (C := R_Ly) (T := T_Ly) (N := 6) (n := 6) hts (fun w h => (List.mem_filter.mp (in_Ly w h)).1) (hts (.instantiable R_Ly 6) (by decide +kernel))
  obtain ⟨c1, i1, hK1⟩ := u_known (C := R_Pm) (T := T_Pm) (N := 12) (n := 12) hts (fun w h => (List.mem_filter.mp (in_Pm w h)).1) (hts (.instantiable R_Pm 12) (by decide +kernel))
  obtain ⟨c2, i2, hK2⟩ := u_known (C := R_Md) (T := T_Md) (N := 37) (n := 37) hts (fun w h => (List.mem_filter.mp (in_Md w h)).1) (hts (.instantiable R_Md 37) (by decide +kernel))
  obtain ⟨a0, hO0, hR0⟩ := zs_arr (hts (.arrayClass .int) (by decide +kernel)) (fun _ h => h)
  obtain ⟨a1, hO1, hR1⟩ := zs_arr (hts (.arrayClass .byte) (by decide +kernel)) (fun _ h => h)
  obtain ⟨a2, hO2, hR2⟩ := zs_arr (hts (.arrayClass .boolean) (by decide +kernel)) (fun _ h => h)
  obtain ⟨a3, hO3, hR3⟩ := zs_arr (hts (.arrayClass .long) (by decide +kernel)) (fun _ h => h)
  obtain ⟨t0, hZ0, hT0⟩ := zs_wLoad hts hg hA
  obtain ⟨t1, hZ1, hT1⟩ := zs_wStore hts hg hA
  have hNc : va_Nc E_uns E_ill s := va_Nc.of (hg (.not (.castable E_uns E_ill)) (by decide +kernel))
  have hQ0 : va_Zq Bundle.tN "UNASSIGNED_STACK" Bundle.steD (fun q : Nat => s.heap.size ≤ q) s s.heap := va_Zqof (hts _ (by decide +kernel)) (hts _ (by decide +kernel)) (hg _ (by decide +kernel)) hA
  have hQ1 : va_Zq Bundle.tN "SUPPRESSED_SENTINEL" Bundle.listD (fun q : Nat => s.heap.size ≤ q) s s.heap := va_Zqof (hts _ (by decide +kernel)) (hts _ (by decide +kernel)) (hg _ (by decide +kernel)) hA
  have hSt : ∀ q ∈ strL, ∃ sa, vk_R R_Pm q.1 q.2 sa s := by
    intro q hq
    simp only [strL, List.mem_cons, List.not_mem_nil, or_false] at hq
    rcases hq with rfl | rfl | rfl | rfl | rfl | rfl | rfl | rfl | rfl | rfl
    · exact zs_str (hts (.stringRef R_Pm 108 "no such memory or load operator") (by decide +kernel)) (hg (.exactly (.string R_Pm 108) "java/lang/String") (by decide +kernel))
    · exact zs_str (hts (.stringRef R_Pm 175 "beyond an end") (by decide +kernel)) (hg (.exactly (.string R_Pm 175) "java/lang/String") (by decide +kernel))
    · exact zs_str (hts (.stringRef R_Pm 126 "no such memory or store operator") (by decide +kernel)) (hg (.exactly (.string R_Pm 126) "java/lang/String") (by decide +kernel))
    · exact zs_str (hts (.stringRef R_Pm 132 "no such memory") (by decide +kernel)) (hg (.exactly (.string R_Pm 132) "java/lang/String") (by decide +kernel))
    · exact zs_str (hts (.stringRef R_Pm 134 "no such memory or segment") (by decide +kernel)) (hg (.exactly (.string R_Pm 134) "java/lang/String") (by decide +kernel))
    · exact zs_str (hts (.stringRef R_Pm 144 "no such segment") (by decide +kernel)) (hg (.exactly (.string R_Pm 144) "java/lang/String") (by decide +kernel))
    · exact zs_str (hts (.stringRef R_Pm 156 "no such table") (by decide +kernel)) (hg (.exactly (.string R_Pm 156) "java/lang/String") (by decide +kernel))
    · exact zs_str (hts (.stringRef R_Pm 161 "no such table or reference") (by decide +kernel)) (hg (.exactly (.string R_Pm 161) "java/lang/String") (by decide +kernel))
    · exact zs_str (hts (.stringRef R_Pm 166 "no such table or another type") (by decide +kernel)) (hg (.exactly (.string R_Pm 166) "java/lang/String") (by decide +kernel))
    · exact zs_str (hts (.stringRef R_Pm 168 "no such table or segment") (by decide +kernel)) (hg (.exactly (.string R_Pm 168) "java/lang/String") (by decide +kernel))
  refine ⟨((fun k => if k = 0 then c0 else if k = 1 then c1 else c2, fun k => if k = 0 then i0 else if k = 1 then i1 else i2), fun k => if k = 0 then a0 else if k = 1 then a1 else if k = 2 then a2 else a3, fun k => if k = 0 then t0 else t1), ?_⟩
  intro Z hZ hz hk
  have hk' : ∀ a : Nat, a < s.heap.size → Z.heap[a]? = s.heap[a]? := fun a h => hk a h (hA a h)
  refine ⟨fun a w hw => word_at hZ (good_of_word (bw_good w hw)) (hts w (List.mem_filter.mp hw).1), va_K.moved hZ.alike ⟨?_, ?_⟩, ?_, fun q hq => ?_, ⟨(va_Z.moved hZ.alike hZ0).kept hk, (va_T.moved hZ.alike hT0).kept hk⟩, ⟨(va_Z.moved hZ.alike hZ1).kept hk, (va_T.moved hZ.alike hT1).kept hk⟩, hNc.moved hZ.alike⟩
  · intro k q hq
    match k, hq with
    | 0, hq => cases hq; exact hK0
    | 1, hq => cases hq; exact hK1
    | 2, hq => cases hq; exact hK2
    | k + 3, hq => simp [vwC] at hq
  · intro k q hq
    match k, hq with
    | 0, hq => cases hq; exact ⟨hO0, hR0⟩
    | 1, hq => cases hq; exact ⟨hO1, hR1⟩
    | 2, hq => cases hq; exact ⟨hO2, hR2⟩
    | 3, hq => cases hq; exact ⟨hO3, hR3⟩
    | k + 4, hq => simp [tyL] at hq
  · intro a w hw
    rcases List.mem_append.mp hw with hw | hw
    · simp only [hw0, List.mem_cons, List.not_mem_nil, or_false] at hw
      rcases hw with rfl | rfl | rfl | rfl
      · exact zs_ref ((hQ0.moved hZ.alike).kept hk) a
      · exact zs_ref ((hQ1.moved hZ.alike).kept hk) a
      · exact zs_ls hZ hk' a (hts _ (by decide +kernel))
      · exact zs_ls hZ hk' a (hts _ (by decide +kernel))
    · obtain ⟨h1, h2⟩ := List.mem_filter.mp hw
      exact zs_x h2 hZ a (hts w h1)
  · obtain ⟨sa, h⟩ := hSt q hq
    exact ⟨sa, h.warm hZ⟩
