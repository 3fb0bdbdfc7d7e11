/-! ===== the words of a throw ===== -/
abbrev EXN : List String := ["java/lang/RuntimeException", "java/lang/Exception"]
theorem ow_ill : ∀ w ∈ Cond.classLink R_Pm 106 E_ill :: Cond.initialized E_ill :: Bundle.ownAtoms R_Pm 110 E_ill EXN, (w ∈ lw_tbl ∧ goodWord w = true) ∨ w ∈ hw4 := by decide +kernel
theorem ow_uns : ∀ w ∈ Cond.classLink R_Pm 173 E_uns :: Cond.initialized E_uns :: Bundle.ownAtoms R_Pm 177 E_uns EXN, (w ∈ lw_tbl ∧ goodWord w = true) ∨ w ∈ hw4 := by decide +kernel

theorem tw_ill_108 {G : cxT} {A : Nat → Prop} (V : State) (h : cxP G A V) : (∀ (a : Array Value) (w : Cond), w ∈ Cond.classLink R_Pm 106 E_ill :: Cond.initialized E_ill :: Bundle.ownAtoms R_Pm 110 E_ill EXN → w.before a V = true) ∧ ∃ sa, vk_R R_Pm 108 "no such memory or load operator" sa V :=
  ⟨fun a w hw => (ow_ill w hw).elim (fun q => h.1 a w (List.mem_filter.mpr q)) (fun q => h.2.2.1 a w q), h.2.2.2.1 (108, "no such memory or load operator") (by decide)⟩
theorem tw_uns_175 {G : cxT} {A : Nat → Prop} (V : State) (h : cxP G A V) : (∀ (a : Array Value) (w : Cond), w ∈ Cond.classLink R_Pm 173 E_uns :: Cond.initialized E_uns :: Bundle.ownAtoms R_Pm 177 E_uns EXN → w.before a V = true) ∧ ∃ sa, vk_R R_Pm 175 "beyond an end" sa V :=
  ⟨fun a w hw => (ow_uns w hw).elim (fun q => h.1 a w (List.mem_filter.mpr q)) (fun q => h.2.2.1 a w q), h.2.2.2.1 (175, "beyond an end") (by decide)⟩
theorem tw_ill_126 {G : cxT} {A : Nat → Prop} (V : State) (h : cxP G A V) : (∀ (a : Array Value) (w : Cond), w ∈ Cond.classLink R_Pm 106 E_ill :: Cond.initialized E_ill :: Bundle.ownAtoms R_Pm 110 E_ill EXN → w.before a V = true) ∧ ∃ sa, vk_R R_Pm 126 "no such memory or store operator" sa V :=
  ⟨fun a w hw => (ow_ill w hw).elim (fun q => h.1 a w (List.mem_filter.mpr q)) (fun q => h.2.2.1 a w q), h.2.2.2.1 (126, "no such memory or store operator") (by decide)⟩
theorem tw_ill_132 {G : cxT} {A : Nat → Prop} (V : State) (h : cxP G A V) : (∀ (a : Array Value) (w : Cond), w ∈ Cond.classLink R_Pm 106 E_ill :: Cond.initialized E_ill :: Bundle.ownAtoms R_Pm 110 E_ill EXN → w.before a V = true) ∧ ∃ sa, vk_R R_Pm 132 "no such memory" sa V :=
  ⟨fun a w hw => (ow_ill w hw).elim (fun q => h.1 a w (List.mem_filter.mpr q)) (fun q => h.2.2.1 a w q), h.2.2.2.1 (132, "no such memory") (by decide)⟩
theorem tw_ill_134 {G : cxT} {A : Nat → Prop} (V : State) (h : cxP G A V) : (∀ (a : Array Value) (w : Cond), w ∈ Cond.classLink R_Pm 106 E_ill :: Cond.initialized E_ill :: Bundle.ownAtoms R_Pm 110 E_ill EXN → w.before a V = true) ∧ ∃ sa, vk_R R_Pm 134 "no such memory or segment" sa V :=
  ⟨fun a w hw => (ow_ill w hw).elim (fun q => h.1 a w (List.mem_filter.mpr q)) (fun q => h.2.2.1 a w q), h.2.2.2.1 (134, "no such memory or segment") (by decide)⟩
theorem tw_ill_144 {G : cxT} {A : Nat → Prop} (V : State) (h : cxP G A V) : (∀ (a : Array Value) (w : Cond), w ∈ Cond.classLink R_Pm 106 E_ill :: Cond.initialized E_ill :: Bundle.ownAtoms R_Pm 110 E_ill EXN → w.before a V = true) ∧ ∃ sa, vk_R R_Pm 144 "no such segment" sa V :=
  ⟨fun a w hw => (ow_ill w hw).elim (fun q => h.1 a w (List.mem_filter.mpr q)) (fun q => h.2.2.1 a w q), h.2.2.2.1 (144, "no such segment") (by decide)⟩
theorem tw_ill_156 {G : cxT} {A : Nat → Prop} (V : State) (h : cxP G A V) : (∀ (a : Array Value) (w : Cond), w ∈ Cond.classLink R_Pm 106 E_ill :: Cond.initialized E_ill :: Bundle.ownAtoms R_Pm 110 E_ill EXN → w.before a V = true) ∧ ∃ sa, vk_R R_Pm 156 "no such table" sa V :=
  ⟨fun a w hw => (ow_ill w hw).elim (fun q => h.1 a w (List.mem_filter.mpr q)) (fun q => h.2.2.1 a w q), h.2.2.2.1 (156, "no such table") (by decide)⟩
theorem tw_ill_161 {G : cxT} {A : Nat → Prop} (V : State) (h : cxP G A V) : (∀ (a : Array Value) (w : Cond), w ∈ Cond.classLink R_Pm 106 E_ill :: Cond.initialized E_ill :: Bundle.ownAtoms R_Pm 110 E_ill EXN → w.before a V = true) ∧ ∃ sa, vk_R R_Pm 161 "no such table or reference" sa V :=
  ⟨fun a w hw => (ow_ill w hw).elim (fun q => h.1 a w (List.mem_filter.mpr q)) (fun q => h.2.2.1 a w q), h.2.2.2.1 (161, "no such table or reference") (by decide)⟩
theorem tw_ill_166 {G : cxT} {A : Nat → Prop} (V : State) (h : cxP G A V) : (∀ (a : Array Value) (w : Cond), w ∈ Cond.classLink R_Pm 106 E_ill :: Cond.initialized E_ill :: Bundle.ownAtoms R_Pm 110 E_ill EXN → w.before a V = true) ∧ ∃ sa, vk_R R_Pm 166 "no such table or another type" sa V :=
  ⟨fun a w hw => (ow_ill w hw).elim (fun q => h.1 a w (List.mem_filter.mpr q)) (fun q => h.2.2.1 a w q), h.2.2.2.1 (166, "no such table or another type") (by decide)⟩
theorem tw_ill_168 {G : cxT} {A : Nat → Prop} (V : State) (h : cxP G A V) : (∀ (a : Array Value) (w : Cond), w ∈ Cond.classLink R_Pm 106 E_ill :: Cond.initialized E_ill :: Bundle.ownAtoms R_Pm 110 E_ill EXN → w.before a V = true) ∧ ∃ sa, vk_R R_Pm 168 "no such table or segment" sa V :=
  ⟨fun a w hw => (ow_ill w hw).elim (fun q => h.1 a w (List.mem_filter.mpr q)) (fun q => h.2.2.1 a w q), h.2.2.2.1 (168, "no such table or segment") (by decide)⟩
def wp_Pm_putLowestBytes_3 (post : (Nat → Int32) → Prop) (n : Nat) (nb : Int64) (nn : Int32) (pl : Int32) : Nat → Int32 → (Nat → Int32) → Prop
  | 0 => fun _ _ => False
  | n9 + 1 => fun x5 f => ((nn ≤ x5 → (post f)) ∧ (¬ nn ≤ x5 → ((vp_in (pl + x5) n) ∧ ∀ a_103 : Nat → Int32, a_103 = upd f (pl + x5).toNatClampNeg (vp_nar .byte ((((nb.toUInt64 >>> ((8 * x5).toInt64.toUInt64 &&& Int64.toUInt64 63)).toInt64).toInt32).toInt8.toInt32)) → (∀ x_104 : Int32, x_104 = x5 + 1 → (wp_Pm_putLowestBytes_3 post n nb nn pl n9 x_104 a_103)))))
set_option maxHeartbeats 4000000 in
set_option maxRecDepth 100000 in
theorem l_Pm_putLowestBytes_3 {p : Program} {l : Launch} {e : Env} {s : State} {m : MethodId} {args : Array Value} {below : List Frame} {meth : Method} {c : Code} (G : cxT) (aa : Nat) (A : Nat → Prop) (post : (Nat → Int32) → Prop) (n : Nat) (nb : Int64) (nn : Int32) (pl : Int32) (hx : p.tables.exec = Jvm.exec) (hb : c.code = b_Pm_putLowestBytes) (hr : meth.sig.returnType = none) (hml : c.maxLocals = 6) (hown : s.vm.findClass R_Pm = some m.cls) (hlocks : meth.locks = false) (hcx : cx G A s) (hA : ∀ q : Nat, s.heap.size ≤ q → A q) :
    ∀ (n9 : Nat) (x5 : Int32) (f : Nat → Int32), wp_Pm_putLowestBytes_3 post n nb nn pl n9 x5 f → ∀ (H : Heap) (locs : List Loc), va_P G.1 vwC [(aa, .inl (G.2.1 1, n, .inl f))] H → va_D A [(aa, .inl (G.2.1 1, n, .inl f))] → va_S A s.heap H locs → ∀ (ls : Array Slot), lv_has ls 6 [(0, .long nb), (2, .int nn), (3, .ref aa), (4, .int pl), (5, .int x5)] → W p l e (headSpec [.code y_Pm_putLowestBytes b_Pm_putLowestBytes 6 none] ({ frames := 0, cells := 0, slots := 0, locals := 0 } : Room)).room s m args below meth c H locs 0 0 (MQ below (va_Qv post (fun u t => va_P G.1 vwC [(aa, .inl (G.2.1 1, n, .inl u))] t.heap) A) args s 0 0 A) (F0 m 3 ls []) := by
  have hts := hcx.now.1 args
  have hK := hcx.now.2.1
  intro n9
  induction n9 with
  | zero =>
    intro x5 f hw
    exact hw.elim
  | succ n9 ih =>
    intro x5 f hw H locs hP hD hS ls hl
    unfold wp_Pm_putLowestBytes_3 at hw
    refine lv_iload hx hb d_Pm_putLowestBytes_3 (lv_at hl 4 rfl) ?_
    refine lv_iload_n hx hb d_Pm_putLowestBytes_5 rfl (lv_at hl 1 rfl) ?_
    refine lv_icmp_ge (tgt := 31) hx hb d_Pm_putLowestBytes_6 (by decide) (fun c_101 => ?_) (fun c_101 => ?_)
    · replace hw := hw.1 c_101
      exact W.vret hx hb hr (fun t ht hW => ⟨⟨f, rfl, hw, by have h9 := hP; rw [← ht] at h9; exact h9⟩, hS.F ht⟩) hS.2.2 d_Pm_putLowestBytes_31
    · replace hw := hw.2 c_101
      refine lv_aload_n hx hb d_Pm_putLowestBytes_9 rfl (lv_at hl 2 rfl) ?_
      refine lv_iload hx hb d_Pm_putLowestBytes_10 (lv_at hl 3 rfl) ?_
      refine lv_iload hx hb d_Pm_putLowestBytes_12 (lv_at hl 4 rfl) ?_
      refine lv_iadd hx hb d_Pm_putLowestBytes_14 ?_
      refine lv_lload_n hx hb d_Pm_putLowestBytes_15 rfl (lv_at hl 0 rfl) ?_
      refine lv_bipush (v := 8) hx hb d_Pm_putLowestBytes_16 (by decide) ?_
      refine lv_iload hx hb d_Pm_putLowestBytes_18 (lv_at hl 4 rfl) ?_
      refine lv_imul hx hb d_Pm_putLowestBytes_20 ?_
      refine lv_lushr (v := (nb.toUInt64 >>> ((8 * x5).toInt64.toUInt64 &&& Int64.toUInt64 63)).toInt64) hx hb d_Pm_putLowestBytes_21 rfl ?_
      refine lv_l2i (v := ((nb.toUInt64 >>> ((8 * x5).toInt64.toUInt64 &&& Int64.toUInt64 63)).toInt64).toInt32) hx hb d_Pm_putLowestBytes_22 rfl ?_
      refine lv_i2b (v := (((nb.toUInt64 >>> ((8 * x5).toInt64.toUInt64 &&& Int64.toUInt64 63)).toInt64).toInt32).toInt8.toInt32) hx hb d_Pm_putLowestBytes_23 rfl ?_
      obtain ⟨h_102, hw⟩ := hw
      obtain ⟨a_103, ea_103⟩ : ∃ z, z = upd f (pl + x5).toNatClampNeg (vp_nar .byte ((((nb.toUInt64 >>> ((8 * x5).toInt64.toUInt64 &&& Int64.toUInt64 63)).toInt64).toInt32).toInt8.toInt32)) := ⟨_, rfl⟩
      replace hw := hw a_103 ea_103
      refine va_bast hx hb hK hP hD hS 0 1 rfl rfl h_102 d_Pm_putLowestBytes_24 (fun H locs hP hD hS => ?_)
      rw [← ea_103] at hP hD
      have hP : va_P G.1 vwC [(aa, .inl (G.2.1 1, n, .inl a_103))] H := hP
      have hD : va_D A [(aa, .inl (G.2.1 1, n, .inl a_103))] := hD
      obtain ⟨x_104, ex_104⟩ : ∃ y : Int32, y = x5 + 1 := ⟨_, rfl⟩
      replace hw := hw x_104 ex_104
      refine lv_iinc (v := x_104) (lv' := [(5, .int x_104), (0, .long nb), (2, .int nn), (3, .ref aa), (4, .int pl)]) hx hb d_Pm_putLowestBytes_25 hl (k := 4) rfl (by rw [ex_104]; rfl) (by decide) rfl (fun ls hl => ?_)
      refine lv_goto (tgt := 3) hx hb d_Pm_putLowestBytes_28 (by decide) ?_
      exact ih x_104 a_103 hw _ _ hP hD hS ls (lv_sub hl [1, 2, 3, 4, 0] rfl)
def wp_Pm_putLowestBytes (post : (Nat → Int32) → Prop) (n : Nat) (f : Nat → Int32) (nb : Int64) (nn : Int32) (pl : Int32) : Prop := ∃ n9 : Nat, wp_Pm_putLowestBytes_3 post n nb nn pl n9 0 f
set_option maxHeartbeats 4000000 in
set_option maxRecDepth 100000 in
theorem t_Pm_putLowestBytes (l : Launch) (G : cxT) (aa : Nat) (n : Nat) (f : Nat → Int32) (nb : Int64) (nn : Int32) (pl : Int32) (sz : Nat) (post : (Nat → Int32) → Prop) (hw : wp_Pm_putLowestBytes post n f nb nn pl) : Met l y_Pm_putLowestBytes [.code y_Pm_putLowestBytes b_Pm_putLowestBytes 6 none] ({ frames := 0, cells := 0, slots := 0, locals := 0 } : Room) (cm G [.long nb, .int nn, .ref aa, .int pl] [(aa, .inl (G.2.1 1, n, .inl f))] sz) (va_Qv post (fun u t => va_P G.1 vwC [(aa, .inl (G.2.1 1, n, .inl u))] t.heap) (va_A [(aa, .inl (G.2.1 1, n, .inl f))] sz)) 0 0 (va_A [(aa, .inl (G.2.1 1, n, .inl f))] sz) := by
  refine Met.ofW (cc := b_Pm_putLowestBytes) (maxL := 6) (ret := none) (by decide +kernel) rfl ?_
  intro p e s m args below meth c s₁ B hml hv
  obtain ⟨rfl, hsz, hcx, hP, hD0⟩ := hv
  have hx := B.exec
  have hb := B.bytes
  have hr := B.returns
  have hlocks := B.notSynchronized
  have hown : s.vm.findClass R_Pm = some m.cls := findClass_of_methodNamed B.named
  subst hsz
  have hD := hD0.self (sz := s.heap.size)
  generalize hAe : va_A [(aa, .inl (G.2.1 1, n, .inl f))] s.heap.size = A at hD hcx ⊢
  have hA : ∀ q : Nat, s.heap.size ≤ q → A q := fun q h => by rw [← hAe]; exact Or.inr h
  have hS : va_S A s.heap s.heap [] := va_S.rf
  have hts := hcx.now.1 [.long nb, .int nn, .ref aa, .int pl].toArray
  have hK := hcx.now.2.1
  have hl := lv_entry ([.long nb, .int nn, .ref aa, .int pl]) (n := 6) (Nat.le_of_ble_eq_true rfl)
  rw [lg_entry_eq]
  generalize (lg_sl ([.long nb, .int nn, .ref aa, .int pl]) ++ List.replicate (6 - (lg_sl ([.long nb, .int nn, .ref aa, .int pl])).length) Slot.unset).toArray = ls at hl ⊢
  have hl : lv_has ls 6 [(0, .long nb), (2, .int nn), (3, .ref aa), (4, .int pl)] := hl
  unfold wp_Pm_putLowestBytes at hw
  refine lv_iconst (v := 0) hx hb d_Pm_putLowestBytes_0 (by decide) ?_
  refine lv_istore (lv' := [(5, .int 0), (0, .long nb), (2, .int nn), (3, .ref aa), (4, .int pl)]) hx hb d_Pm_putLowestBytes_1 hl (by decide) rfl (fun ls hl => ?_)
  obtain ⟨n9, hw⟩ := hw
  exact l_Pm_putLowestBytes_3 G aa A post n nb nn pl hx hb hr hml hown hlocks hcx hA n9 0 f hw _ _ hP hD hS ls (lv_sub hl [1, 2, 3, 4, 0] rfl)
def byt (v : Int64) (i : Nat) : Int32 := ((v.toUInt64 >>> ((8 * nI i).toInt64.toUInt64 &&& Int64.toUInt64 63)).toInt64).toInt32.toInt8.toInt32
def put_b (f : Nat → Int32) (a n : Nat) (v : Int64) : Nat → Int32 := fun j => if a ≤ j ∧ j < a + n then byt v (j - a) else f j
theorem pm_put_loop {post : (Nat → Int32) → Prop} {n a b : Nat} {v : Int64} (g : Nat → Int32) (h2 : a + b ≤ n) (hn : n < 2 ^ 31) (H : post (put_b g a b v)) : ∃ m, wp_Pm_putLowestBytes_3 post n v (nI b) (nI a) m (nI 0) g := by
  refine Exists.elim (pk_loop (fun m i f => wp_Pm_putLowestBytes_3 post n v (nI b) (nI a) m (nI i) f) (fun i f => f = put_b g a i v) b 0 g (Nat.zero_le _) ?_ ?_ ?_) (fun m hm => ⟨m, hm⟩)
  · funext j
    unfold put_b
    rw [if_neg (by omega)]
  · intro m f hf
    unfold wp_Pm_putLowestBytes_3
    refine ⟨fun _ => ?_, fun h => absurd (nI_le (Nat.le_refl b) (by omega)) h⟩
    rw [hf]
    exact H
  · intro m i f hi hf ih
    unfold wp_Pm_putLowestBytes_3
    refine ⟨fun h => absurd h (nI_ge hi (by omega)), fun _ => ?_⟩
    rw [nI_add]
    refine ⟨vp_in_nI (by omega) hn, fun x ex y ey => ?_⟩
    rw [nI_clamp (by omega), pk_vb] at ex
    rw [ey, nI_1]
    refine ih _ ?_
    rw [ex, hf]
    funext j
    unfold put_b upd
    by_cases hj : j = a + i
    · subst hj
      rw [if_pos rfl, if_pos (by omega), show a + i - a = i by omega]
      rfl
    · rw [if_neg hj]
      dsimp only
      by_cases q : a ≤ j ∧ j < a + i
      · rw [if_pos q, if_pos (by omega)]
      · rw [if_neg q, if_neg (by omega)]

theorem c_Pm_putLowestBytes (l : Launch) (G : cxT) (aa : Nat) (n : Nat) (f : Nat → Int32) (nb : Int64) (nn : Int32) (pl : Int32) (sz : Nat) (h0 : ¬ pl < 0) (h1 : ¬ nn < 0) (h2 : pl.toNatClampNeg + nn.toNatClampNeg ≤ n) (h3 : n < 2147483648) : Met l y_Pm_putLowestBytes [.code y_Pm_putLowestBytes b_Pm_putLowestBytes 6 none] ({ frames := 0, cells := 0, slots := 0, locals := 0 } : Room) (cm G [.long nb, .int nn, .ref aa, .int pl] [(aa, .inl (G.2.1 1, n, .inl f))] sz) (va_Qv (fun u => u = put_b f pl.toNatClampNeg nn.toNatClampNeg nb) (fun u t => va_P G.1 vwC [(aa, .inl (G.2.1 1, n, .inl u))] t.heap) (va_A [(aa, .inl (G.2.1 1, n, .inl f))] sz)) 0 0 (va_A [(aa, .inl (G.2.1 1, n, .inl f))] sz) :=
  t_Pm_putLowestBytes l G aa n f nb nn pl sz (fun u => u = put_b f pl.toNatClampNeg nn.toNatClampNeg nb) (by
    unfold wp_Pm_putLowestBytes
    obtain ⟨a, ha, rfl⟩ := nI_of h0
    obtain ⟨b, hb, rfl⟩ := nI_of h1
    rw [nI_clamp ha, nI_clamp hb] at h2 ⊢
    rw [← nI_0]
    exact pm_put_loop f h2 h3 rfl)
def wp_Pm_pagesOf (post : Int32 → Prop) (trp : Int32) (mC : Int32) (mU : Int32) (mS : Nat → Int32) (mL : Nat → Int32) (mD : Nat → Int32) (k : Int32) : Prop := (mC.toInt ≤ 6) ∧ (post ((ly_ln mC k mL) / 256))
set_option maxHeartbeats 4000000 in
set_option maxRecDepth 100000 in
theorem t_Pm_pagesOf (l : Launch) (G : cxT) (h : Nat) (m0 : Nat) (aml : Nat) (amb : Nat) (t0 : Nat) (atl : Nat) (att : Nat) (ate : Nat) (b0 : Nat) (asb : Nat) (r0 : Nat) (asr : Nat) (m1 : Nat) (m2 : Nat) (m3 : Nat) (trp : Int32) (mC : Int32) (mU : Int32) (mS : Nat → Int32) (mL : Nat → Int32) (mD : Nat → Int32) (k : Int32) (post : Int32 → Prop) (hw : wp_Pm_pagesOf post trp mC mU mS mL mD k) : Met l y_Pm_pagesOf [.code y_Pm_pagesOf b_Pm_pagesOf 2 (some .int)] ({ frames := 2, cells := 0, slots := 0, locals := 80 } : Room) (cp G [.ref h, .int k] [(h, .inr (1, [.ref m0, .ref aml, .ref amb, .ref t0, .ref atl, .ref att, .ref ate, .ref b0, .ref asb, .ref r0, .ref asr, .int trp])), (m0, .inr (0, [.int 12288, .ref m1, .ref m2, .ref m3, .int mC, .int mU])), (m1, .inl (G.2.1 0, 6, .inl mS)), (m2, .inl (G.2.1 0, 6, .inl mL)), (m3, .inl (G.2.1 2, 6, .inl mD))]) (va_Qi (fun r (_ : Unit) => post r) (fun _ _ => True) (fun _ => False)) 0 0 (fun _ => False) := by
  refine Met.ofW (cc := b_Pm_pagesOf) (maxL := 2) (ret := (some .int)) (by decide +kernel) rfl ?_
  intro p e s m args below meth c s₁ B hml hv
  obtain ⟨rfl, hcx, hP⟩ := hv
  have hx := B.exec
  have hb := B.bytes
  have hr := B.returns
  have hlocks := B.notSynchronized
  have hown : s.vm.findClass R_Pm = some m.cls := findClass_of_methodNamed B.named
  have hS : va_S (fun _ => False) s.heap s.heap [] := va_S.rf
  have hts := hcx.now.1 [.ref h, .int k].toArray
  have hK := hcx.now.2.1
  have hl := lv_entry ([.ref h, .int k]) (n := 2) (Nat.le_of_ble_eq_true rfl)
  rw [lg_entry_eq]
  generalize (lg_sl ([.ref h, .int k]) ++ List.replicate (2 - (lg_sl ([.ref h, .int k])).length) Slot.unset).toArray = ls at hl ⊢
  have hl : lv_has ls 2 [(0, .ref h), (1, .int k)] := hl
  unfold wp_Pm_pagesOf at hw
  refine lv_aload_n hx hb d_Pm_pagesOf_0 rfl (lv_at hl 0 rfl) ?_
  refine va_get (D := G.1) (ci := 1) (v := .ref m0) (C := R_Pm) (T := T_Pm) (N := 12) hx hb hts in_Pm hown hK hP 0 rfl rfl 0 (by decide) (hts _ fl_Pm_14) (fun _ h9 => h9) rfl d_Pm_pagesOf_1 ?_
  refine lv_iload_n hx hb d_Pm_pagesOf_4 rfl (lv_at hl 1 rfl) ?_
  obtain ⟨h_1, hw⟩ := hw
  have hPc := hP.sub (ws' := [(m0, .inr (0, [.int 12288, .ref m1, .ref m2, .ref m3, .int mC, .int mU])), (m1, .inl (G.2.1 0, 6, .inl mS)), (m2, .inl (G.2.1 0, 6, .inl mL)), (m3, .inl (G.2.1 2, 6, .inl mD))]) [1, 2, 3, 4] rfl
  refine pu_i (va_runV (As := [.int k]) (rest := []) ⟨hx, hb, hml, hown, hts⟩ (c_Ly_lengthOf l G m0 m1 m2 m3 6 12288 mC mU mS mL mD k h_1) (cwV 1 hts (gi_V ml_Pm_163 im_Ly_lengthOf se_Ly_lengthOf ini_Ly co_Ly_lengthOf) rfl rfl rfl (by decide +kernel) ⟨Nat.le_of_ble_eq_true rfl, Nat.le_of_ble_eq_true rfl⟩) ⟨cp_blind, va_recv hK hPc (ci := 0) (q0 := 0) rfl rfl, cp_pre hcx hS hPc⟩ rfl rfl hl.1 rfl (lv_room (Nat.le_of_ble_eq_true rfl)) d_Pm_pagesOf_5 ⟨Nat.le_of_ble_eq_true rfl, Nat.le_of_ble_eq_true rfl⟩) hS hP (fun H locs hP hS => ?_)
  refine lv_sipush (v := 256) hx hb d_Pm_pagesOf_8 (by decide) ?_
  refine lv_idiv hx hb d_Pm_pagesOf_11 (by decide) ?_
  exact W.iret (v := (ly_ln mC k mL) / 256) hx hb hr (fun t ht hW => ⟨⟨(ly_ln mC k mL) / 256, (), rfl, hw, trivial⟩, hS.F ht⟩) hS.2.2 d_Pm_pagesOf_12
theorem c_Pm_pagesOf (l : Launch) (G : cxT) (h : Nat) (m0 : Nat) (aml : Nat) (amb : Nat) (t0 : Nat) (atl : Nat) (att : Nat) (ate : Nat) (b0 : Nat) (asb : Nat) (r0 : Nat) (asr : Nat) (m1 : Nat) (m2 : Nat) (m3 : Nat) (trp : Int32) (mC : Int32) (mU : Int32) (mS : Nat → Int32) (mL : Nat → Int32) (mD : Nat → Int32) (k : Int32) (h0 : mC.toInt ≤ 6) : Met l y_Pm_pagesOf [.code y_Pm_pagesOf b_Pm_pagesOf 2 (some .int)] ({ frames := 2, cells := 0, slots := 0, locals := 80 } : Room) (cp G [.ref h, .int k] [(h, .inr (1, [.ref m0, .ref aml, .ref amb, .ref t0, .ref atl, .ref att, .ref ate, .ref b0, .ref asb, .ref r0, .ref asr, .int trp])), (m0, .inr (0, [.int 12288, .ref m1, .ref m2, .ref m3, .int mC, .int mU])), (m1, .inl (G.2.1 0, 6, .inl mS)), (m2, .inl (G.2.1 0, 6, .inl mL)), (m3, .inl (G.2.1 2, 6, .inl mD))]) (va_Qi (fun r (_ : Unit) => (fun r => r = (ly_ln mC k mL / 256)) r) (fun _ _ => True) (fun _ => False)) 0 0 (fun _ => False) :=
  t_Pm_pagesOf l G h m0 aml amb t0 atl att ate b0 asb r0 asr m1 m2 m3 trp mC mU mS mL mD k (fun r => r = (ly_ln mC k mL / 256)) (by
    exact ⟨h0, rfl⟩)
def wp_Pm_pagesLeft (post : Int32 → Prop) (trp : Int32) (mC : Int32) (mU : Int32) (mS : Nat → Int32) (mL : Nat → Int32) (mD : Nat → Int32) : Prop := post ((12288 - mU) / 256)
set_option maxHeartbeats 4000000 in
set_option maxRecDepth 100000 in
theorem t_Pm_pagesLeft (l : Launch) (G : cxT) (h : Nat) (m0 : Nat) (aml : Nat) (amb : Nat) (t0 : Nat) (atl : Nat) (att : Nat) (ate : Nat) (b0 : Nat) (asb : Nat) (r0 : Nat) (asr : Nat) (m1 : Nat) (m2 : Nat) (m3 : Nat) (trp : Int32) (mC : Int32) (mU : Int32) (mS : Nat → Int32) (mL : Nat → Int32) (mD : Nat → Int32) (post : Int32 → Prop) (hw : wp_Pm_pagesLeft post trp mC mU mS mL mD) : Met l y_Pm_pagesLeft [.code y_Pm_pagesLeft b_Pm_pagesLeft 1 (some .int)] ({ frames := 2, cells := 0, slots := 0, locals := 80 } : Room) (cp G [.ref h] [(h, .inr (1, [.ref m0, .ref aml, .ref amb, .ref t0, .ref atl, .ref att, .ref ate, .ref b0, .ref asb, .ref r0, .ref asr, .int trp])), (m0, .inr (0, [.int 12288, .ref m1, .ref m2, .ref m3, .int mC, .int mU])), (m1, .inl (G.2.1 0, 6, .inl mS)), (m2, .inl (G.2.1 0, 6, .inl mL)), (m3, .inl (G.2.1 2, 6, .inl mD))]) (va_Qi (fun r (_ : Unit) => post r) (fun _ _ => True) (fun _ => False)) 0 0 (fun _ => False) := by
  refine Met.ofW (cc := b_Pm_pagesLeft) (maxL := 1) (ret := (some .int)) (by decide +kernel) rfl ?_
  intro p e s m args below meth c s₁ B hml hv
  obtain ⟨rfl, hcx, hP⟩ := hv
  have hx := B.exec
  have hb := B.bytes
  have hr := B.returns
  have hlocks := B.notSynchronized
  have hown : s.vm.findClass R_Pm = some m.cls := findClass_of_methodNamed B.named
  have hS : va_S (fun _ => False) s.heap s.heap [] := va_S.rf
  have hts := hcx.now.1 [.ref h].toArray
  have hK := hcx.now.2.1
  have hl := lv_entry ([.ref h]) (n := 1) (Nat.le_of_ble_eq_true rfl)
  rw [lg_entry_eq]
  generalize (lg_sl ([.ref h]) ++ List.replicate (1 - (lg_sl ([.ref h])).length) Slot.unset).toArray = ls at hl ⊢
  have hl : lv_has ls 1 [(0, .ref h)] := hl
  unfold wp_Pm_pagesLeft at hw
  refine lv_aload_n hx hb d_Pm_pagesLeft_0 rfl (lv_at hl 0 rfl) ?_
  refine va_get (D := G.1) (ci := 1) (v := .ref m0) (C := R_Pm) (T := T_Pm) (N := 12) hx hb hts in_Pm hown hK hP 0 rfl rfl 0 (by decide) (hts _ fl_Pm_14) (fun _ h9 => h9) rfl d_Pm_pagesLeft_1 ?_
  have hPc := hP.sub (ws' := [(m0, .inr (0, [.int 12288, .ref m1, .ref m2, .ref m3, .int mC, .int mU])), (m1, .inl (G.2.1 0, 6, .inl mS)), (m2, .inl (G.2.1 0, 6, .inl mL)), (m3, .inl (G.2.1 2, 6, .inl mD))]) [1, 2, 3, 4] rfl
  refine pu_i (va_runV (As := []) (rest := []) ⟨hx, hb, hml, hown, hts⟩ (c_Ly_left l G m0 m1 m2 m3 6 12288 mC mU mS mL mD) (cwV 0 hts (gi_V ml_Pm_150 im_Ly_left se_Ly_left ini_Ly co_Ly_left) rfl rfl rfl (by decide +kernel) ⟨Nat.le_of_ble_eq_true rfl, Nat.le_of_ble_eq_true rfl⟩) ⟨cp_blind, va_recv hK hPc (ci := 0) (q0 := 0) rfl rfl, cp_pre hcx hS hPc⟩ rfl rfl hl.1 rfl (lv_room (Nat.le_of_ble_eq_true rfl)) d_Pm_pagesLeft_4 ⟨Nat.le_of_ble_eq_true rfl, Nat.le_of_ble_eq_true rfl⟩) hS hP (fun H locs hP hS => ?_)
  refine lv_sipush (v := 256) hx hb d_Pm_pagesLeft_7 (by decide) ?_
  refine lv_idiv hx hb d_Pm_pagesLeft_10 (by decide) ?_
  exact W.iret (v := (12288 - mU) / 256) hx hb hr (fun t ht hW => ⟨⟨(12288 - mU) / 256, (), rfl, hw, trivial⟩, hS.F ht⟩) hS.2.2 d_Pm_pagesLeft_11
theorem c_Pm_pagesLeft (l : Launch) (G : cxT) (h : Nat) (m0 : Nat) (aml : Nat) (amb : Nat) (t0 : Nat) (atl : Nat) (att : Nat) (ate : Nat) (b0 : Nat) (asb : Nat) (r0 : Nat) (asr : Nat) (m1 : Nat) (m2 : Nat) (m3 : Nat) (trp : Int32) (mC : Int32) (mU : Int32) (mS : Nat → Int32) (mL : Nat → Int32) (mD : Nat → Int32) : Met l y_Pm_pagesLeft [.code y_Pm_pagesLeft b_Pm_pagesLeft 1 (some .int)] ({ frames := 2, cells := 0, slots := 0, locals := 80 } : Room) (cp G [.ref h] [(h, .inr (1, [.ref m0, .ref aml, .ref amb, .ref t0, .ref atl, .ref att, .ref ate, .ref b0, .ref asb, .ref r0, .ref asr, .int trp])), (m0, .inr (0, [.int 12288, .ref m1, .ref m2, .ref m3, .int mC, .int mU])), (m1, .inl (G.2.1 0, 6, .inl mS)), (m2, .inl (G.2.1 0, 6, .inl mL)), (m3, .inl (G.2.1 2, 6, .inl mD))]) (va_Qi (fun r (_ : Unit) => (fun r => r = ((12288 - mU) / 256)) r) (fun _ _ => True) (fun _ => False)) 0 0 (fun _ => False) :=
  t_Pm_pagesLeft l G h m0 aml amb t0 atl att ate b0 asb r0 asr m1 m2 m3 trp mC mU mS mL mD (fun r => r = ((12288 - mU) / 256)) (by
    exact rfl)
def wp_Pm_placeOf (post : Int32 → Int32 → Prop) (postx : String → Int32 → Prop) (n : Nat) (trp : Int32) (yR : Int32) (yC : Int32) (yU : Int32) (yS : Nat → Int32) (yL : Nat → Int32) (yD : Nat → Int32) (k : Int32) (fr : Int64) (cn : Int64) (tn : Int32) : Prop := (yC.toInt ≤ n) ∧ (((lg_cmp (fr + cn) ((ly_ln yC k yL).toInt64) ≤ 0 → ((yC.toInt ≤ n) ∧ (post ((ly_st yC k yS) + fr.toInt32) trp))) ∧ (¬ lg_cmp (fr + cn) ((ly_ln yC k yL).toInt64) ≤ 0 → (postx E_uns tn))))
set_option maxHeartbeats 4000000 in
set_option maxRecDepth 100000 in
theorem t_Pm_placeOf (l : Launch) (hst : l.stackTraces = false) (G : cxT) (h : Nat) (m0 : Nat) (aml : Nat) (amb : Nat) (t0 : Nat) (atl : Nat) (att : Nat) (ate : Nat) (b0 : Nat) (asb : Nat) (r0 : Nat) (asr : Nat) (y0 : Nat) (y1 : Nat) (y2 : Nat) (y3 : Nat) (n : Nat) (trp : Int32) (yR : Int32) (yC : Int32) (yU : Int32) (yS : Nat → Int32) (yL : Nat → Int32) (yD : Nat → Int32) (k : Int32) (fr : Int64) (cn : Int64) (tn : Int32) (sz : Nat) (post : Int32 → Int32 → Prop) (postx : String → Int32 → Prop) (hw : wp_Pm_placeOf post postx n trp yR yC yU yS yL yD k fr cn tn) : tr_Met l y_Pm_placeOf [.code y_Pm_placeOf b_Pm_placeOf 8 (some .int)] ({ frames := 6, cells := 1, slots := 6, locals := 90 } : Room) (cm G [.ref h, .ref y0, .int k, .long fr, .long cn, .int tn] [(h, .inr (1, [.ref m0, .ref aml, .ref amb, .ref t0, .ref atl, .ref att, .ref ate, .ref b0, .ref asb, .ref r0, .ref asr, .int trp])), (y0, .inr (0, [.int yR, .ref y1, .ref y2, .ref y3, .int yC, .int yU])), (y1, .inl (G.2.1 0, n, .inl yS)), (y2, .inl (G.2.1 0, n, .inl yL)), (y3, .inl (G.2.1 2, n, .inl yD))] sz) (va_Qi post (fun u t => va_P G.1 vwC [(h, .inr (1, [.ref m0, .ref aml, .ref amb, .ref t0, .ref atl, .ref att, .ref ate, .ref b0, .ref asb, .ref r0, .ref asr, .int u])), (y0, .inr (0, [.int yR, .ref y1, .ref y2, .ref y3, .int yC, .int yU])), (y1, .inl (G.2.1 0, n, .inl yS)), (y2, .inl (G.2.1 0, n, .inl yL)), (y3, .inl (G.2.1 2, n, .inl yD))] t.heap) (va_A [(h, .inr (1, [.ref m0, .ref aml, .ref amb, .ref t0, .ref atl, .ref att, .ref ate, .ref b0, .ref asb, .ref r0, .ref asr, .int trp])), (y0, .inr (0, [.int yR, .ref y1, .ref y2, .ref y3, .int yC, .int yU])), (y1, .inl (G.2.1 0, n, .inl yS)), (y2, .inl (G.2.1 0, n, .inl yL)), (y3, .inl (G.2.1 2, n, .inl yD))] sz)) (fun E t => ∃ u : Int32, postx E u ∧ va_P G.1 vwC [(h, .inr (1, [.ref m0, .ref aml, .ref amb, .ref t0, .ref atl, .ref att, .ref ate, .ref b0, .ref asb, .ref r0, .ref asr, .int u])), (y0, .inr (0, [.int yR, .ref y1, .ref y2, .ref y3, .int yC, .int yU])), (y1, .inl (G.2.1 0, n, .inl yS)), (y2, .inl (G.2.1 0, n, .inl yL)), (y3, .inl (G.2.1 2, n, .inl yD))] t.heap) (va_A [(h, .inr (1, [.ref m0, .ref aml, .ref amb, .ref t0, .ref atl, .ref att, .ref ate, .ref b0, .ref asb, .ref r0, .ref asr, .int trp])), (y0, .inr (0, [.int yR, .ref y1, .ref y2, .ref y3, .int yC, .int yU])), (y1, .inl (G.2.1 0, n, .inl yS)), (y2, .inl (G.2.1 0, n, .inl yL)), (y3, .inl (G.2.1 2, n, .inl yD))] sz) 1 6 := by
  refine tr_ofW (cc := b_Pm_placeOf) (maxL := 8) (ret := (some .int)) (by decide +kernel) rfl ?_
  intro p e s m args below meth c s₁ B hml hv
  obtain ⟨rfl, hsz, hcx, hP, hD0⟩ := hv
  have hx := B.exec
  have hb := B.bytes
  have hr := B.returns
  have hlocks := B.notSynchronized
  have hown : s.vm.findClass R_Pm = some m.cls := findClass_of_methodNamed B.named
  have hnt := tr_nt (ws := [.code y_Pm_placeOf b_Pm_placeOf 8 (some .int)]) (rm := ({ frames := 6, cells := 1, slots := 6, locals := 90 } : Room)) B rfl
  subst hsz
  have hD := hD0.self (sz := s.heap.size)
  generalize hAe : va_A [(h, .inr (1, [.ref m0, .ref aml, .ref amb, .ref t0, .ref atl, .ref att, .ref ate, .ref b0, .ref asb, .ref r0, .ref asr, .int trp])), (y0, .inr (0, [.int yR, .ref y1, .ref y2, .ref y3, .int yC, .int yU])), (y1, .inl (G.2.1 0, n, .inl yS)), (y2, .inl (G.2.1 0, n, .inl yL)), (y3, .inl (G.2.1 2, n, .inl yD))] s.heap.size = A at hD hcx ⊢
  have hA : ∀ q : Nat, s.heap.size ≤ q → A q := fun q h => by rw [← hAe]; exact Or.inr h
  have hS : va_S A s.heap s.heap [] := va_S.rf
  have hts := hcx.now.1 [.ref h, .ref y0, .int k, .long fr, .long cn, .int tn].toArray
  have hK := hcx.now.2.1
  have hl := lv_entry ([.ref h, .ref y0, .int k, .long fr, .long cn, .int tn]) (n := 8) (Nat.le_of_ble_eq_true rfl)
  rw [lg_entry_eq]
  generalize (lg_sl ([.ref h, .ref y0, .int k, .long fr, .long cn, .int tn]) ++ List.replicate (8 - (lg_sl ([.ref h, .ref y0, .int k, .long fr, .long cn, .int tn])).length) Slot.unset).toArray = ls at hl ⊢
  have hl : lv_has ls 8 [(0, .ref h), (1, .ref y0), (2, .int k), (3, .long fr), (5, .long cn), (7, .int tn)] := hl
  unfold wp_Pm_placeOf at hw
  refine lv_lload_n hx hb d_Pm_placeOf_0 rfl (lv_at hl 3 rfl) ?_
  refine lv_lload hx hb d_Pm_placeOf_1 (lv_at hl 4 rfl) ?_
  refine lv_ladd hx hb d_Pm_placeOf_3 ?_
  refine lv_aload_n hx hb d_Pm_placeOf_4 rfl (lv_at hl 1 rfl) ?_
  refine lv_iload_n hx hb d_Pm_placeOf_5 rfl (lv_at hl 2 rfl) ?_
  obtain ⟨h_1, hw⟩ := hw
  have hPc := hP.sub (ws' := [(y0, .inr (0, [.int yR, .ref y1, .ref y2, .ref y3, .int yC, .int yU])), (y1, .inl (G.2.1 0, n, .inl yS)), (y2, .inl (G.2.1 0, n, .inl yL)), (y3, .inl (G.2.1 2, n, .inl yD))]) [1, 2, 3, 4] rfl
  refine pu_i (va_runV (As := [.int k]) (rest := [.long (fr + cn)]) ⟨hx, hb, hml, hown, hts⟩ (c_Ly_lengthOf l G y0 y1 y2 y3 n yR yC yU yS yL yD k h_1) (cwV 1 hts (gi_V ml_Pm_163 im_Ly_lengthOf se_Ly_lengthOf ini_Ly co_Ly_lengthOf) rfl rfl rfl (by decide +kernel) ⟨Nat.le_of_ble_eq_true rfl, Nat.le_of_ble_eq_true rfl⟩) ⟨cp_blind, va_recv hK hPc (ci := 0) (q0 := 0) rfl rfl, cp_pre hcx hS hPc⟩ rfl rfl hl.1 rfl (lv_room (Nat.le_of_ble_eq_true rfl)) d_Pm_placeOf_6 ⟨Nat.le_of_ble_eq_true rfl, Nat.le_of_ble_eq_true rfl⟩) hS hP (fun H locs hP hS => ?_)
  refine lv_i2l (v := (ly_ln yC k yL).toInt64) hx hb d_Pm_placeOf_9 rfl ?_
  refine W.lcmp hx hb d_Pm_placeOf_10 ?_
  refine lv_if_le (tgt := 30) hx hb d_Pm_placeOf_11 (by decide) (fun c_2 => ?_) (fun c_2 => ?_)
  · replace hw := hw.1 c_2
    refine lv_aload_n hx hb d_Pm_placeOf_30 rfl (lv_at hl 1 rfl) ?_
    refine lv_iload_n hx hb d_Pm_placeOf_31 rfl (lv_at hl 2 rfl) ?_
    obtain ⟨h_3, hw⟩ := hw
    have hPc := hP.sub (ws' := [(y0, .inr (0, [.int yR, .ref y1, .ref y2, .ref y3, .int yC, .int yU])), (y1, .inl (G.2.1 0, n, .inl yS)), (y2, .inl (G.2.1 0, n, .inl yL)), (y3, .inl (G.2.1 2, n, .inl yD))]) [1, 2, 3, 4] rfl
    refine pu_i (va_runV (As := [.int k]) (rest := []) ⟨hx, hb, hml, hown, hts⟩ (c_Ly_startOf l G y0 y1 y2 y3 n yR yC yU yS yL yD k h_3) (cwV 1 hts (gi_V ml_Pm_178 im_Ly_startOf se_Ly_startOf ini_Ly co_Ly_startOf) rfl rfl rfl (by decide +kernel) ⟨Nat.le_of_ble_eq_true rfl, Nat.le_of_ble_eq_true rfl⟩) ⟨cp_blind, va_recv hK hPc (ci := 0) (q0 := 0) rfl rfl, cp_pre hcx hS hPc⟩ rfl rfl hl.1 rfl (lv_room (Nat.le_of_ble_eq_true rfl)) d_Pm_placeOf_32 ⟨Nat.le_of_ble_eq_true rfl, Nat.le_of_ble_eq_true rfl⟩) hS hP (fun H locs hP hS => ?_)
    refine lv_lload_n hx hb d_Pm_placeOf_35 rfl (lv_at hl 3 rfl) ?_
    refine lv_l2i (v := fr.toInt32) hx hb d_Pm_placeOf_36 rfl ?_
    refine lv_iadd hx hb d_Pm_placeOf_37 ?_
    refine W.widen (k := 1) (n := 6) (Nat.le_of_ble_eq_true rfl) (Nat.le_of_ble_eq_true rfl) ?_
    exact tr_ret (W.iret (v := (ly_st yC k yS) + fr.toInt32) hx hb hr (fun t ht hW => ⟨⟨(ly_st yC k yS) + fr.toInt32, trp, rfl, hw, by have h9 := hP; rw [← ht] at h9; exact h9⟩, hS.F ht⟩) hS.2.2 d_Pm_placeOf_38)
  · replace hw := hw.2 c_2
    refine lv_aload_n hx hb d_Pm_placeOf_14 rfl (lv_at hl 0 rfl) ?_
    refine lv_iload hx hb d_Pm_placeOf_15 (lv_at hl 5 rfl) ?_
    refine va_put (D := G.1) (ci := 1) (v := .int tn) (ty := (.int)) (C := R_Pm) (T := T_Pm) (N := 12) hx hb hts in_Pm ty_Pm tk_Pm nm_Pm hown hK hP hD hS 0 rfl rfl 11 (by decide) (hts _ fl_Pm_50) (fun _ h9 => h9) rfl (by decide +kernel) rfl rfl (Nat.le_of_ble_eq_true rfl) d_Pm_placeOf_17 (fun H locs hP hD hS => ?_)
    have hP : va_P G.1 vwC [(h, .inr (1, [.ref m0, .ref aml, .ref amb, .ref t0, .ref atl, .ref att, .ref ate, .ref b0, .ref asb, .ref r0, .ref asr, .int tn])), (y0, .inr (0, [.int yR, .ref y1, .ref y2, .ref y3, .int yC, .int yU])), (y1, .inl (G.2.1 0, n, .inl yS)), (y2, .inl (G.2.1 0, n, .inl yL)), (y3, .inl (G.2.1 2, n, .inl yD))] H := hP
    have hD : va_D A [(h, .inr (1, [.ref m0, .ref aml, .ref amb, .ref t0, .ref atl, .ref att, .ref ate, .ref b0, .ref asb, .ref r0, .ref asr, .int tn])), (y0, .inr (0, [.int yR, .ref y1, .ref y2, .ref y3, .int yC, .int yU])), (y1, .inl (G.2.1 0, n, .inl yS)), (y2, .inl (G.2.1 0, n, .inl yL)), (y3, .inl (G.2.1 2, n, .inl yD))] := hD
    exact tr_throw hx hb hst hown (by decide +kernel) (by decide +kernel) (hcx.imp (fun V h => tw_uns_175 V h)) hS (hl.1.trans hml.symm) d_Pm_placeOf_20 d_Pm_placeOf_23 d_Pm_placeOf_24 d_Pm_placeOf_26 d_Pm_placeOf_29 (hnt _) (Nat.le_of_ble_eq_true rfl) (Nat.le_of_ble_eq_true rfl) (Nat.le_of_ble_eq_true rfl) (Nat.le_of_ble_eq_true rfl) hlocks (fun t h1 h2 => ⟨tn, hw, hP.kept fun k q hq => h2 q.1 (hP k q hq).lt⟩) hA (Nat.le_of_ble_eq_true rfl) (Nat.le_of_ble_eq_true rfl)
theorem c_Pm_placeOf (l : Launch) (hst : l.stackTraces = false) (G : cxT) (h : Nat) (m0 : Nat) (aml : Nat) (amb : Nat) (t0 : Nat) (atl : Nat) (att : Nat) (ate : Nat) (b0 : Nat) (asb : Nat) (r0 : Nat) (asr : Nat) (y0 : Nat) (y1 : Nat) (y2 : Nat) (y3 : Nat) (n : Nat) (trp : Int32) (yR : Int32) (yC : Int32) (yU : Int32) (yS : Nat → Int32) (yL : Nat → Int32) (yD : Nat → Int32) (k : Int32) (fr : Int64) (cn : Int64) (tn : Int32) (sz : Nat) (h0 : yC.toInt ≤ n) : tr_Met l y_Pm_placeOf [.code y_Pm_placeOf b_Pm_placeOf 8 (some .int)] ({ frames := 6, cells := 1, slots := 6, locals := 90 } : Room) (cm G [.ref h, .ref y0, .int k, .long fr, .long cn, .int tn] [(h, .inr (1, [.ref m0, .ref aml, .ref amb, .ref t0, .ref atl, .ref att, .ref ate, .ref b0, .ref asb, .ref r0, .ref asr, .int trp])), (y0, .inr (0, [.int yR, .ref y1, .ref y2, .ref y3, .int yC, .int yU])), (y1, .inl (G.2.1 0, n, .inl yS)), (y2, .inl (G.2.1 0, n, .inl yL)), (y3, .inl (G.2.1 2, n, .inl yD))] sz) (va_Qi (fun r u => (lg_cmp (fr + cn) (ly_ln yC k yL).toInt64 ≤ 0) ∧ r = (ly_st yC k yS + fr.toInt32) ∧ u = trp) (fun u t => va_P G.1 vwC [(h, .inr (1, [.ref m0, .ref aml, .ref amb, .ref t0, .ref atl, .ref att, .ref ate, .ref b0, .ref asb, .ref r0, .ref asr, .int u])), (y0, .inr (0, [.int yR, .ref y1, .ref y2, .ref y3, .int yC, .int yU])), (y1, .inl (G.2.1 0, n, .inl yS)), (y2, .inl (G.2.1 0, n, .inl yL)), (y3, .inl (G.2.1 2, n, .inl yD))] t.heap) (va_A [(h, .inr (1, [.ref m0, .ref aml, .ref amb, .ref t0, .ref atl, .ref att, .ref ate, .ref b0, .ref asb, .ref r0, .ref asr, .int trp])), (y0, .inr (0, [.int yR, .ref y1, .ref y2, .ref y3, .int yC, .int yU])), (y1, .inl (G.2.1 0, n, .inl yS)), (y2, .inl (G.2.1 0, n, .inl yL)), (y3, .inl (G.2.1 2, n, .inl yD))] sz)) (fun E t => ∃ u : Int32, (fun E u => ((¬ lg_cmp (fr + cn) (ly_ln yC k yL).toInt64 ≤ 0) ∧ E = E_uns ∧ u = tn)) E u ∧ va_P G.1 vwC [(h, .inr (1, [.ref m0, .ref aml, .ref amb, .ref t0, .ref atl, .ref att, .ref ate, .ref b0, .ref asb, .ref r0, .ref asr, .int u])), (y0, .inr (0, [.int yR, .ref y1, .ref y2, .ref y3, .int yC, .int yU])), (y1, .inl (G.2.1 0, n, .inl yS)), (y2, .inl (G.2.1 0, n, .inl yL)), (y3, .inl (G.2.1 2, n, .inl yD))] t.heap) (va_A [(h, .inr (1, [.ref m0, .ref aml, .ref amb, .ref t0, .ref atl, .ref att, .ref ate, .ref b0, .ref asb, .ref r0, .ref asr, .int trp])), (y0, .inr (0, [.int yR, .ref y1, .ref y2, .ref y3, .int yC, .int yU])), (y1, .inl (G.2.1 0, n, .inl yS)), (y2, .inl (G.2.1 0, n, .inl yL)), (y3, .inl (G.2.1 2, n, .inl yD))] sz) 1 6 :=
  t_Pm_placeOf l hst G h m0 aml amb t0 atl att ate b0 asb r0 asr y0 y1 y2 y3 n trp yR yC yU yS yL yD k fr cn tn sz (fun r u => (lg_cmp (fr + cn) (ly_ln yC k yL).toInt64 ≤ 0) ∧ r = (ly_st yC k yS + fr.toInt32) ∧ u = trp) (fun E u => ((¬ lg_cmp (fr + cn) (ly_ln yC k yL).toInt64 ≤ 0) ∧ E = E_uns ∧ u = tn)) (by
    unfold wp_Pm_placeOf
    exact ⟨h0, fun c => ⟨h0, c, rfl, rfl⟩, fun c => ⟨c, rfl, rfl⟩⟩)
