/-! ===== the reference's helpers ===== -/
def pos1 (v : Int32) : Int32 := if 0 < v then 1 else 0
def fit_of (fr n al : Int64) : Int32 := if 0 < lg_cmp (fr + n) al then 0 else 1
/-- the byte that the log of writings leaves at an address, as the reference finds it -/
def byA (ki inn pl le so : Nat → Int32) (va : Nat → Int64) (he : Nat → Int32) (mem : Int32) : Nat → Int32 → Int32
  | 0, _ => 0
  | w + 1, a => if inn w = mem ∧ ¬ (a - pl w) < 0 ∧ ¬ le w ≤ a - pl w then (if ki w = 1 then ((va w >>> ((8 * (a - pl w)).toInt64 &&& 63)) &&& 255).toInt32 else if ki w = 2 then (va w &&& 255).toInt32 else if ki w = 4 then he (so w + (a - pl w)).toNatClampNeg else byA ki inn pl le so va he mem w (so w + (a - pl w)))
      else byA ki inn pl le so va he mem w a
def enA (ki inn pl le so va : Nat → Int32) (he : Nat → Int32) : Nat → Int32 → Int32 → Int32
  | 0, _, _ => (-1)
  | w + 1, t, a => if inn w = t ∧ ¬ (a - pl w) < 0 ∧ ¬ le w ≤ a - pl w then (if ki w = 2 then va w else if ki w = 4 then he (so w + (a - pl w)).toNatClampNeg else enA ki inn pl le so va he w (va w) (so w + (a - pl w)))
      else enA ki inn pl le so va he w t a
def wp_Md_thrown (post : Int32 → Prop) (vth : Int32) (vtp : Int32) (vme : Int32) (vta : Int32) (vpl : Int32) (vel : Int32) (vsg : Int32) (vus : Int32) (vrw : Int32) (vur : Int32) (vwr : Int32) (vch : Int32) : Prop := post vth
set_option maxHeartbeats 4000000 in
set_option maxRecDepth 100000 in
theorem t_Md_thrown (l : Launch) (G : cxT) (h : Nat) (xpg : Nat) (xli : Nat) (xty : Nat) (xen : Nat) (xtl : Nat) (xst : Nat) (xmn : Nat) (xdr : Nat) (xhe : Nat) (xrs : Nat) (xrm : Nat) (xrd : Nat) (xhr : Nat) (xki : Nat) (xin : Nat) (xpl : Nat) (xle : Nat) (xso : Nat) (xva : Nat) (xck : Nat) (xci : Nat) (xcp : Nat) (xcl : Nat) (xcs : Nat) (xcv : Nat) (vth : Int32) (vtp : Int32) (vme : Int32) (vta : Int32) (vpl : Int32) (vel : Int32) (vsg : Int32) (vus : Int32) (vrw : Int32) (vur : Int32) (vwr : Int32) (vch : Int32) (post : Int32 → Prop) (hw : wp_Md_thrown post vth vtp vme vta vpl vel vsg vus vrw vur vwr vch) : Met l y_Md_thrown [.code y_Md_thrown b_Md_thrown 1 (some .int)] ({ frames := 0, cells := 0, slots := 0, locals := 0 } : Room) (cp G [.ref h] [(h, .inr (2, [.int vth, .int vtp, .int vme, .int vta, .int vpl, .int vel, .ref xpg, .ref xli, .ref xty, .ref xen, .ref xtl, .int vsg, .int vus, .int vrw, .int vur, .ref xst, .ref xmn, .ref xdr, .ref xhe, .ref xrs, .ref xrm, .ref xrd, .ref xhr, .int vwr, .int vch, .ref xki, .ref xin, .ref xpl, .ref xle, .ref xso, .ref xva, .ref xck, .ref xci, .ref xcp, .ref xcl, .ref xcs, .ref xcv]))]) (va_Qi (fun r (_ : Unit) => post r) (fun _ _ => True) (fun _ => False)) 0 0 (fun _ => False) := by
  refine Met.ofW (cc := b_Md_thrown) (maxL := 1) (ret := (some .int)) (by decide +kernel) rfl ?_
  intro p e s m args below meth c s₁ B hml hv
  obtain ⟨rfl, hcx, hP⟩ := hv
  have hx := B.exec
  have hb := B.bytes
  have hr := B.returns
  have hlocks := B.notSynchronized
  have hown : s.vm.findClass R_Md = some m.cls := findClass_of_methodNamed B.named
  have hS : va_S (fun _ => False) s.heap s.heap [] := va_S.rf
  have hts := hcx.now.1 [.ref h].toArray
  have hK := hcx.now.2.1
  have hl := lv_entry ([.ref h]) (n := 1) (Nat.le_of_ble_eq_true rfl)
  rw [lg_entry_eq]
  generalize (lg_sl ([.ref h]) ++ List.replicate (1 - (lg_sl ([.ref h])).length) Slot.unset).toArray = ls at hl ⊢
  have hl : lv_has ls 1 [(0, .ref h)] := hl
  unfold wp_Md_thrown at hw
  refine lv_aload_n hx hb d_Md_thrown_0 rfl (lv_at hl 0 rfl) ?_
  refine va_get (D := G.1) (ci := 2) (v := .int vth) (C := R_Md) (T := T_Md) (N := 37) hx hb hts in_Md hown hK hP 0 rfl rfl 0 (by decide) (hts _ fl_Md_94) (fun _ h9 => h9) rfl d_Md_thrown_1 ?_
  exact W.iret (v := vth) hx hb hr (fun t ht hW => ⟨⟨vth, (), rfl, hw, trivial⟩, hS.F ht⟩) hS.2.2 d_Md_thrown_4
theorem c_Md_thrown (l : Launch) (G : cxT) (h : Nat) (xpg : Nat) (xli : Nat) (xty : Nat) (xen : Nat) (xtl : Nat) (xst : Nat) (xmn : Nat) (xdr : Nat) (xhe : Nat) (xrs : Nat) (xrm : Nat) (xrd : Nat) (xhr : Nat) (xki : Nat) (xin : Nat) (xpl : Nat) (xle : Nat) (xso : Nat) (xva : Nat) (xck : Nat) (xci : Nat) (xcp : Nat) (xcl : Nat) (xcs : Nat) (xcv : Nat) (vth : Int32) (vtp : Int32) (vme : Int32) (vta : Int32) (vpl : Int32) (vel : Int32) (vsg : Int32) (vus : Int32) (vrw : Int32) (vur : Int32) (vwr : Int32) (vch : Int32) : Met l y_Md_thrown [.code y_Md_thrown b_Md_thrown 1 (some .int)] ({ frames := 0, cells := 0, slots := 0, locals := 0 } : Room) (cp G [.ref h] [(h, .inr (2, [.int vth, .int vtp, .int vme, .int vta, .int vpl, .int vel, .ref xpg, .ref xli, .ref xty, .ref xen, .ref xtl, .int vsg, .int vus, .int vrw, .int vur, .ref xst, .ref xmn, .ref xdr, .ref xhe, .ref xrs, .ref xrm, .ref xrd, .ref xhr, .int vwr, .int vch, .ref xki, .ref xin, .ref xpl, .ref xle, .ref xso, .ref xva, .ref xck, .ref xci, .ref xcp, .ref xcl, .ref xcs, .ref xcv]))]) (va_Qi (fun r (_ : Unit) => (fun r => r = vth) r) (fun _ _ => True) (fun _ => False)) 0 0 (fun _ => False) :=
  t_Md_thrown l G h xpg xli xty xen xtl xst xmn xdr xhe xrs xrm xrd xhr xki xin xpl xle xso xva xck xci xcp xcl xcs xcv vth vtp vme vta vpl vel vsg vus vrw vur vwr vch (fun r => r = vth) (by
    exact rfl)
def wp_Md_wide (post : Int64 → Prop) (k : Int32) : Prop := post (k.toInt64 &&& 4294967295)
set_option maxHeartbeats 4000000 in
set_option maxRecDepth 100000 in
theorem t_Md_wide (l : Launch) (G : cxT) (k : Int32) (post : Int64 → Prop) (hw : wp_Md_wide post k) : Met l y_Md_wide [.code y_Md_wide b_Md_wide 1 (some .long)] ({ frames := 0, cells := 0, slots := 0, locals := 0 } : Room) (cp G [.int k] []) (va_Ql (fun r (_ : Unit) => post r) (fun _ _ => True) (fun _ => False)) 0 0 (fun _ => False) := by
  refine Met.ofW (cc := b_Md_wide) (maxL := 1) (ret := (some .long)) (by decide +kernel) rfl ?_
  intro p e s m args below meth c s₁ B hml hv
  obtain ⟨rfl, hcx, hP⟩ := hv
  have hx := B.exec
  have hb := B.bytes
  have hr := B.returns
  have hlocks := B.notSynchronized
  have hown : s.vm.findClass R_Md = some m.cls := findClass_of_methodNamed B.named
  have hS : va_S (fun _ => False) s.heap s.heap [] := va_S.rf
  have hts := hcx.now.1 [.int k].toArray
  have hK := hcx.now.2.1
  have hl := lv_entry ([.int k]) (n := 1) (Nat.le_of_ble_eq_true rfl)
  rw [lg_entry_eq]
  generalize (lg_sl ([.int k]) ++ List.replicate (1 - (lg_sl ([.int k])).length) Slot.unset).toArray = ls at hl ⊢
  have hl : lv_has ls 1 [(0, .int k)] := hl
  unfold wp_Md_wide at hw
  refine lv_iload_n hx hb d_Md_wide_0 rfl (lv_at hl 0 rfl) ?_
  refine lv_i2l (v := k.toInt64) hx hb d_Md_wide_1 rfl ?_
  refine lv_ldc2 (v := 4294967295) hx hb hown (hts _ k_Md_97) d_Md_wide_2 ?_
  refine lv_land hx hb d_Md_wide_5 ?_
  exact W.lret (v := k.toInt64 &&& 4294967295) hx hb hr (fun t ht hW => ⟨⟨k.toInt64 &&& 4294967295, (), rfl, hw, trivial⟩, hS.F ht⟩) hS.2.2 d_Md_wide_6
theorem c_Md_wide (l : Launch) (G : cxT) (k : Int32) : Met l y_Md_wide [.code y_Md_wide b_Md_wide 1 (some .long)] ({ frames := 0, cells := 0, slots := 0, locals := 0 } : Room) (cp G [.int k] []) (va_Ql (fun r (_ : Unit) => (fun r => r = (u32 k)) r) (fun _ _ => True) (fun _ => False)) 0 0 (fun _ => False) :=
  t_Md_wide l G k (fun r => r = (u32 k)) (by
    exact rfl)
def wp_Md_isMemory (post : Int32 → Prop) (vth : Int32) (vtp : Int32) (vme : Int32) (vta : Int32) (vpl : Int32) (vel : Int32) (vsg : Int32) (vus : Int32) (vrw : Int32) (vur : Int32) (vwr : Int32) (vch : Int32) (k : Int32) : Prop := ((k < 0 → (post 0)) ∧ (¬ k < 0 → (((vme ≤ k → (post 0)) ∧ (¬ vme ≤ k → (post 1))))))
set_option maxHeartbeats 4000000 in
set_option maxRecDepth 100000 in
theorem t_Md_isMemory (l : Launch) (G : cxT) (h : Nat) (xpg : Nat) (xli : Nat) (xty : Nat) (xen : Nat) (xtl : Nat) (xst : Nat) (xmn : Nat) (xdr : Nat) (xhe : Nat) (xrs : Nat) (xrm : Nat) (xrd : Nat) (xhr : Nat) (xki : Nat) (xin : Nat) (xpl : Nat) (xle : Nat) (xso : Nat) (xva : Nat) (xck : Nat) (xci : Nat) (xcp : Nat) (xcl : Nat) (xcs : Nat) (xcv : Nat) (vth : Int32) (vtp : Int32) (vme : Int32) (vta : Int32) (vpl : Int32) (vel : Int32) (vsg : Int32) (vus : Int32) (vrw : Int32) (vur : Int32) (vwr : Int32) (vch : Int32) (k : Int32) (post : Int32 → Prop) (hw : wp_Md_isMemory post vth vtp vme vta vpl vel vsg vus vrw vur vwr vch k) : Met l y_Md_isMemory [.code y_Md_isMemory b_Md_isMemory 2 (some .boolean)] ({ frames := 0, cells := 0, slots := 0, locals := 0 } : Room) (cp G [.ref h, .int k] [(h, .inr (2, [.int vth, .int vtp, .int vme, .int vta, .int vpl, .int vel, .ref xpg, .ref xli, .ref xty, .ref xen, .ref xtl, .int vsg, .int vus, .int vrw, .int vur, .ref xst, .ref xmn, .ref xdr, .ref xhe, .ref xrs, .ref xrm, .ref xrd, .ref xhr, .int vwr, .int vch, .ref xki, .ref xin, .ref xpl, .ref xle, .ref xso, .ref xva, .ref xck, .ref xci, .ref xcp, .ref xcl, .ref xcs, .ref xcv]))]) (va_Qi (fun r (_ : Unit) => post r) (fun _ _ => True) (fun _ => False)) 0 0 (fun _ => False) := by
  refine Met.ofW (cc := b_Md_isMemory) (maxL := 2) (ret := (some .boolean)) (by decide +kernel) rfl ?_
  intro p e s m args below meth c s₁ B hml hv
  obtain ⟨rfl, hcx, hP⟩ := hv
  have hx := B.exec
  have hb := B.bytes
  have hr := B.returns
  have hlocks := B.notSynchronized
  have hown : s.vm.findClass R_Md = some m.cls := findClass_of_methodNamed B.named
  have hS : va_S (fun _ => False) s.heap s.heap [] := va_S.rf
  have hts := hcx.now.1 [.ref h, .int k].toArray
  have hK := hcx.now.2.1
  have hl := lv_entry ([.ref h, .int k]) (n := 2) (Nat.le_of_ble_eq_true rfl)
  rw [lg_entry_eq]
  generalize (lg_sl ([.ref h, .int k]) ++ List.replicate (2 - (lg_sl ([.ref h, .int k])).length) Slot.unset).toArray = ls at hl ⊢
  have hl : lv_has ls 2 [(0, .ref h), (1, .int k)] := hl
  unfold wp_Md_isMemory at hw
  refine lv_iload_n hx hb d_Md_isMemory_0 rfl (lv_at hl 1 rfl) ?_
  refine lv_if_lt (tgt := 16) hx hb d_Md_isMemory_1 (by decide) (fun c_1 => ?_) (fun c_1 => ?_)
  · replace hw := hw.1 c_1
    refine lv_iconst (v := 0) hx hb d_Md_isMemory_16 (by decide) ?_
    exact W.zret (v := 0) (ty := .boolean) hx hb hr rfl (fun t ht hW => ⟨⟨0, (), rfl, hw, trivial⟩, hS.F ht⟩) hS.2.2 d_Md_isMemory_17
  · replace hw := hw.2 c_1
    refine lv_iload_n hx hb d_Md_isMemory_4 rfl (lv_at hl 1 rfl) ?_
    refine lv_aload_n hx hb d_Md_isMemory_5 rfl (lv_at hl 0 rfl) ?_
    refine va_get (D := G.1) (ci := 2) (v := .int vme) (C := R_Md) (T := T_Md) (N := 37) hx hb hts in_Md hown hK hP 0 rfl rfl 2 (by decide) (hts _ fl_Md_99) (fun _ h9 => h9) rfl d_Md_isMemory_6 ?_
    refine lv_icmp_ge (tgt := 16) hx hb d_Md_isMemory_9 (by decide) (fun c_2 => ?_) (fun c_2 => ?_)
    · replace hw := hw.1 c_2
      refine lv_iconst (v := 0) hx hb d_Md_isMemory_16 (by decide) ?_
      exact W.zret (v := 0) (ty := .boolean) hx hb hr rfl (fun t ht hW => ⟨⟨0, (), rfl, hw, trivial⟩, hS.F ht⟩) hS.2.2 d_Md_isMemory_17
    · replace hw := hw.2 c_2
      refine lv_iconst (v := 1) hx hb d_Md_isMemory_12 (by decide) ?_
      refine lv_goto (tgt := 17) hx hb d_Md_isMemory_13 (by decide) ?_
      exact W.zret (v := 1) (ty := .boolean) hx hb hr rfl (fun t ht hW => ⟨⟨1, (), rfl, hw, trivial⟩, hS.F ht⟩) hS.2.2 d_Md_isMemory_17
theorem c_Md_isMemory (l : Launch) (G : cxT) (h : Nat) (xpg : Nat) (xli : Nat) (xty : Nat) (xen : Nat) (xtl : Nat) (xst : Nat) (xmn : Nat) (xdr : Nat) (xhe : Nat) (xrs : Nat) (xrm : Nat) (xrd : Nat) (xhr : Nat) (xki : Nat) (xin : Nat) (xpl : Nat) (xle : Nat) (xso : Nat) (xva : Nat) (xck : Nat) (xci : Nat) (xcp : Nat) (xcl : Nat) (xcs : Nat) (xcv : Nat) (vth : Int32) (vtp : Int32) (vme : Int32) (vta : Int32) (vpl : Int32) (vel : Int32) (vsg : Int32) (vus : Int32) (vrw : Int32) (vur : Int32) (vwr : Int32) (vch : Int32) (k : Int32) : Met l y_Md_isMemory [.code y_Md_isMemory b_Md_isMemory 2 (some .boolean)] ({ frames := 0, cells := 0, slots := 0, locals := 0 } : Room) (cp G [.ref h, .int k] [(h, .inr (2, [.int vth, .int vtp, .int vme, .int vta, .int vpl, .int vel, .ref xpg, .ref xli, .ref xty, .ref xen, .ref xtl, .int vsg, .int vus, .int vrw, .int vur, .ref xst, .ref xmn, .ref xdr, .ref xhe, .ref xrs, .ref xrm, .ref xrd, .ref xhr, .int vwr, .int vch, .ref xki, .ref xin, .ref xpl, .ref xle, .ref xso, .ref xva, .ref xck, .ref xci, .ref xcp, .ref xcl, .ref xcs, .ref xcv]))]) (va_Qi (fun r (_ : Unit) => (fun r => r = (ly_has vme k)) r) (fun _ _ => True) (fun _ => False)) 0 0 (fun _ => False) :=
  t_Md_isMemory l G h xpg xli xty xen xtl xst xmn xdr xhe xrs xrm xrd xhr xki xin xpl xle xso xva xck xci xcp xcl xcs xcv vth vtp vme vta vpl vel vsg vus vrw vur vwr vch k (fun r => r = (ly_has vme k)) (by
    unfold wp_Md_isMemory ly_has
    exact ⟨fun c1 => by simp [c1], fun c1 => ⟨fun c2 => by simp [c1, c2], fun c2 => by simp [c1, c2]⟩⟩)
def wp_Md_isTable (post : Int32 → Prop) (vth : Int32) (vtp : Int32) (vme : Int32) (vta : Int32) (vpl : Int32) (vel : Int32) (vsg : Int32) (vus : Int32) (vrw : Int32) (vur : Int32) (vwr : Int32) (vch : Int32) (k : Int32) : Prop := ((k < 0 → (post 0)) ∧ (¬ k < 0 → (((vta ≤ k → (post 0)) ∧ (¬ vta ≤ k → (post 1))))))
set_option maxHeartbeats 4000000 in
set_option maxRecDepth 100000 in
theorem t_Md_isTable (l : Launch) (G : cxT) (h : Nat) (xpg : Nat) (xli : Nat) (xty : Nat) (xen : Nat) (xtl : Nat) (xst : Nat) (xmn : Nat) (xdr : Nat) (xhe : Nat) (xrs : Nat) (xrm : Nat) (xrd : Nat) (xhr : Nat) (xki : Nat) (xin : Nat) (xpl : Nat) (xle : Nat) (xso : Nat) (xva : Nat) (xck : Nat) (xci : Nat) (xcp : Nat) (xcl : Nat) (xcs : Nat) (xcv : Nat) (vth : Int32) (vtp : Int32) (vme : Int32) (vta : Int32) (vpl : Int32) (vel : Int32) (vsg : Int32) (vus : Int32) (vrw : Int32) (vur : Int32) (vwr : Int32) (vch : Int32) (k : Int32) (post : Int32 → Prop) (hw : wp_Md_isTable post vth vtp vme vta vpl vel vsg vus vrw vur vwr vch k) : Met l y_Md_isTable [.code y_Md_isTable b_Md_isTable 2 (some .boolean)] ({ frames := 0, cells := 0, slots := 0, locals := 0 } : Room) (cp G [.ref h, .int k] [(h, .inr (2, [.int vth, .int vtp, .int vme, .int vta, .int vpl, .int vel, .ref xpg, .ref xli, .ref xty, .ref xen, .ref xtl, .int vsg, .int vus, .int vrw, .int vur, .ref xst, .ref xmn, .ref xdr, .ref xhe, .ref xrs, .ref xrm, .ref xrd, .ref xhr, .int vwr, .int vch, .ref xki, .ref xin, .ref xpl, .ref xle, .ref xso, .ref xva, .ref xck, .ref xci, .ref xcp, .ref xcl, .ref xcs, .ref xcv]))]) (va_Qi (fun r (_ : Unit) => post r) (fun _ _ => True) (fun _ => False)) 0 0 (fun _ => False) := by
  refine Met.ofW (cc := b_Md_isTable) (maxL := 2) (ret := (some .boolean)) (by decide +kernel) rfl ?_
  intro p e s m args below meth c s₁ B hml hv
  obtain ⟨rfl, hcx, hP⟩ := hv
  have hx := B.exec
  have hb := B.bytes
  have hr := B.returns
  have hlocks := B.notSynchronized
  have hown : s.vm.findClass R_Md = some m.cls := findClass_of_methodNamed B.named
  have hS : va_S (fun _ => False) s.heap s.heap [] := va_S.rf
  have hts := hcx.now.1 [.ref h, .int k].toArray
  have hK := hcx.now.2.1
  have hl := lv_entry ([.ref h, .int k]) (n := 2) (Nat.le_of_ble_eq_true rfl)
  rw [lg_entry_eq]
  generalize (lg_sl ([.ref h, .int k]) ++ List.replicate (2 - (lg_sl ([.ref h, .int k])).length) Slot.unset).toArray = ls at hl ⊢
  have hl : lv_has ls 2 [(0, .ref h), (1, .int k)] := hl
  unfold wp_Md_isTable at hw
  refine lv_iload_n hx hb d_Md_isTable_0 rfl (lv_at hl 1 rfl) ?_
  refine lv_if_lt (tgt := 16) hx hb d_Md_isTable_1 (by decide) (fun c_1 => ?_) (fun c_1 => ?_)
  · replace hw := hw.1 c_1
    refine lv_iconst (v := 0) hx hb d_Md_isTable_16 (by decide) ?_
    exact W.zret (v := 0) (ty := .boolean) hx hb hr rfl (fun t ht hW => ⟨⟨0, (), rfl, hw, trivial⟩, hS.F ht⟩) hS.2.2 d_Md_isTable_17
  · replace hw := hw.2 c_1
    refine lv_iload_n hx hb d_Md_isTable_4 rfl (lv_at hl 1 rfl) ?_
    refine lv_aload_n hx hb d_Md_isTable_5 rfl (lv_at hl 0 rfl) ?_
    refine va_get (D := G.1) (ci := 2) (v := .int vta) (C := R_Md) (T := T_Md) (N := 37) hx hb hts in_Md hown hK hP 0 rfl rfl 3 (by decide) (hts _ fl_Md_102) (fun _ h9 => h9) rfl d_Md_isTable_6 ?_
    refine lv_icmp_ge (tgt := 16) hx hb d_Md_isTable_9 (by decide) (fun c_2 => ?_) (fun c_2 => ?_)
    · replace hw := hw.1 c_2
      refine lv_iconst (v := 0) hx hb d_Md_isTable_16 (by decide) ?_
      exact W.zret (v := 0) (ty := .boolean) hx hb hr rfl (fun t ht hW => ⟨⟨0, (), rfl, hw, trivial⟩, hS.F ht⟩) hS.2.2 d_Md_isTable_17
    · replace hw := hw.2 c_2
      refine lv_iconst (v := 1) hx hb d_Md_isTable_12 (by decide) ?_
      refine lv_goto (tgt := 17) hx hb d_Md_isTable_13 (by decide) ?_
      exact W.zret (v := 1) (ty := .boolean) hx hb hr rfl (fun t ht hW => ⟨⟨1, (), rfl, hw, trivial⟩, hS.F ht⟩) hS.2.2 d_Md_isTable_17
theorem c_Md_isTable (l : Launch) (G : cxT) (h : Nat) (xpg : Nat) (xli : Nat) (xty : Nat) (xen : Nat) (xtl : Nat) (xst : Nat) (xmn : Nat) (xdr : Nat) (xhe : Nat) (xrs : Nat) (xrm : Nat) (xrd : Nat) (xhr : Nat) (xki : Nat) (xin : Nat) (xpl : Nat) (xle : Nat) (xso : Nat) (xva : Nat) (xck : Nat) (xci : Nat) (xcp : Nat) (xcl : Nat) (xcs : Nat) (xcv : Nat) (vth : Int32) (vtp : Int32) (vme : Int32) (vta : Int32) (vpl : Int32) (vel : Int32) (vsg : Int32) (vus : Int32) (vrw : Int32) (vur : Int32) (vwr : Int32) (vch : Int32) (k : Int32) : Met l y_Md_isTable [.code y_Md_isTable b_Md_isTable 2 (some .boolean)] ({ frames := 0, cells := 0, slots := 0, locals := 0 } : Room) (cp G [.ref h, .int k] [(h, .inr (2, [.int vth, .int vtp, .int vme, .int vta, .int vpl, .int vel, .ref xpg, .ref xli, .ref xty, .ref xen, .ref xtl, .int vsg, .int vus, .int vrw, .int vur, .ref xst, .ref xmn, .ref xdr, .ref xhe, .ref xrs, .ref xrm, .ref xrd, .ref xhr, .int vwr, .int vch, .ref xki, .ref xin, .ref xpl, .ref xle, .ref xso, .ref xva, .ref xck, .ref xci, .ref xcp, .ref xcl, .ref xcs, .ref xcv]))]) (va_Qi (fun r (_ : Unit) => (fun r => r = (ly_has vta k)) r) (fun _ _ => True) (fun _ => False)) 0 0 (fun _ => False) :=
  t_Md_isTable l G h xpg xli xty xen xtl xst xmn xdr xhe xrs xrm xrd xhr xki xin xpl xle xso xva xck xci xcp xcl xcs xcv vth vtp vme vta vpl vel vsg vus vrw vur vwr vch k (fun r => r = (ly_has vta k)) (by
    unfold wp_Md_isTable ly_has
    exact ⟨fun c1 => by simp [c1], fun c1 => ⟨fun c2 => by simp [c1, c2], fun c2 => by simp [c1, c2]⟩⟩)
def wp_Md_fits (post : Int32 → Int32 → Prop) (vth : Int32) (vtp : Int32) (vme : Int32) (vta : Int32) (vpl : Int32) (vel : Int32) (vsg : Int32) (vus : Int32) (vrw : Int32) (vur : Int32) (vwr : Int32) (vch : Int32) (wy : Int32) (fr : Int64) (cn : Int64) (al : Int64) : Prop := ((0 < lg_cmp (fr + cn) al → (post 0 wy)) ∧ (¬ 0 < lg_cmp (fr + cn) al → (post 1 vtp)))
set_option maxHeartbeats 4000000 in
set_option maxRecDepth 100000 in
theorem t_Md_fits (l : Launch) (G : cxT) (h : Nat) (xpg : Nat) (xli : Nat) (xty : Nat) (xen : Nat) (xtl : Nat) (xst : Nat) (xmn : Nat) (xdr : Nat) (xhe : Nat) (xrs : Nat) (xrm : Nat) (xrd : Nat) (xhr : Nat) (xki : Nat) (xin : Nat) (xpl : Nat) (xle : Nat) (xso : Nat) (xva : Nat) (xck : Nat) (xci : Nat) (xcp : Nat) (xcl : Nat) (xcs : Nat) (xcv : Nat) (vth : Int32) (vtp : Int32) (vme : Int32) (vta : Int32) (vpl : Int32) (vel : Int32) (vsg : Int32) (vus : Int32) (vrw : Int32) (vur : Int32) (vwr : Int32) (vch : Int32) (wy : Int32) (fr : Int64) (cn : Int64) (al : Int64) (sz : Nat) (post : Int32 → Int32 → Prop) (hw : wp_Md_fits post vth vtp vme vta vpl vel vsg vus vrw vur vwr vch wy fr cn al) : Met l y_Md_fits [.code y_Md_fits b_Md_fits 9 (some .boolean)] ({ frames := 0, cells := 0, slots := 0, locals := 0 } : Room) (cm G [.ref h, .int wy, .long fr, .long cn, .long al] [(h, .inr (2, [.int vth, .int vtp, .int vme, .int vta, .int vpl, .int vel, .ref xpg, .ref xli, .ref xty, .ref xen, .ref xtl, .int vsg, .int vus, .int vrw, .int vur, .ref xst, .ref xmn, .ref xdr, .ref xhe, .ref xrs, .ref xrm, .ref xrd, .ref xhr, .int vwr, .int vch, .ref xki, .ref xin, .ref xpl, .ref xle, .ref xso, .ref xva, .ref xck, .ref xci, .ref xcp, .ref xcl, .ref xcs, .ref xcv]))] sz) (va_Qi post (fun u t => va_P G.1 vwC [(h, .inr (2, [.int vth, .int u, .int vme, .int vta, .int vpl, .int vel, .ref xpg, .ref xli, .ref xty, .ref xen, .ref xtl, .int vsg, .int vus, .int vrw, .int vur, .ref xst, .ref xmn, .ref xdr, .ref xhe, .ref xrs, .ref xrm, .ref xrd, .ref xhr, .int vwr, .int vch, .ref xki, .ref xin, .ref xpl, .ref xle, .ref xso, .ref xva, .ref xck, .ref xci, .ref xcp, .ref xcl, .ref xcs, .ref xcv]))] t.heap) (va_A [(h, .inr (2, [.int vth, .int vtp, .int vme, .int vta, .int vpl, .int vel, .ref xpg, .ref xli, .ref xty, .ref xen, .ref xtl, .int vsg, .int vus, .int vrw, .int vur, .ref xst, .ref xmn, .ref xdr, .ref xhe, .ref xrs, .ref xrm, .ref xrd, .ref xhr, .int vwr, .int vch, .ref xki, .ref xin, .ref xpl, .ref xle, .ref xso, .ref xva, .ref xck, .ref xci, .ref xcp, .ref xcl, .ref xcs, .ref xcv]))] sz)) 0 0 (va_A [(h, .inr (2, [.int vth, .int vtp, .int vme, .int vta, .int vpl, .int vel, .ref xpg, .ref xli, .ref xty, .ref xen, .ref xtl, .int vsg, .int vus, .int vrw, .int vur, .ref xst, .ref xmn, .ref xdr, .ref xhe, .ref xrs, .ref xrm, .ref xrd, .ref xhr, .int vwr, .int vch, .ref xki, .ref xin, .ref xpl, .ref xle, .ref xso, .ref xva, .ref xck, .ref xci, .ref xcp, .ref xcl, .ref xcs, .ref xcv]))] sz) := by
  refine Met.ofW (cc := b_Md_fits) (maxL := 9) (ret := (some .boolean)) (by decide +kernel) rfl ?_
  intro p e s m args below meth c s₁ B hml hv
  obtain ⟨rfl, hsz, hcx, hP, hD0⟩ := hv
  have hx := B.exec
  have hb := B.bytes
  have hr := B.returns
  have hlocks := B.notSynchronized
  have hown : s.vm.findClass R_Md = some m.cls := findClass_of_methodNamed B.named
  subst hsz
  have hD := hD0.self (sz := s.heap.size)
  generalize hAe : va_A [(h, .inr (2, [.int vth, .int vtp, .int vme, .int vta, .int vpl, .int vel, .ref xpg, .ref xli, .ref xty, .ref xen, .ref xtl, .int vsg, .int vus, .int vrw, .int vur, .ref xst, .ref xmn, .ref xdr, .ref xhe, .ref xrs, .ref xrm, .ref xrd, .ref xhr, .int vwr, .int vch, .ref xki, .ref xin, .ref xpl, .ref xle, .ref xso, .ref xva, .ref xck, .ref xci, .ref xcp, .ref xcl, .ref xcs, .ref xcv]))] s.heap.size = A at hD hcx ⊢
  have hA : ∀ q : Nat, s.heap.size ≤ q → A q := fun q h => by rw [← hAe]; exact Or.inr h
  have hS : va_S A s.heap s.heap [] := va_S.rf
  have hts := hcx.now.1 [.ref h, .int wy, .long fr, .long cn, .long al].toArray
  have hK := hcx.now.2.1
  have hl := lv_entry ([.ref h, .int wy, .long fr, .long cn, .long al]) (n := 9) (Nat.le_of_ble_eq_true rfl)
  rw [lg_entry_eq]
  generalize (lg_sl ([.ref h, .int wy, .long fr, .long cn, .long al]) ++ List.replicate (9 - (lg_sl ([.ref h, .int wy, .long fr, .long cn, .long al])).length) Slot.unset).toArray = ls at hl ⊢
  have hl : lv_has ls 9 [(0, .ref h), (1, .int wy), (2, .long fr), (4, .long cn), (6, .long al)] := hl
  unfold wp_Md_fits at hw
  refine lv_lload_n hx hb d_Md_fits_0 rfl (lv_at hl 2 rfl) ?_
  refine lv_lload hx hb d_Md_fits_1 (lv_at hl 3 rfl) ?_
  refine lv_ladd hx hb d_Md_fits_3 ?_
  refine lv_lload hx hb d_Md_fits_4 (lv_at hl 4 rfl) ?_
  refine W.lcmp hx hb d_Md_fits_6 ?_
  refine lv_if_gt (tgt := 14) hx hb d_Md_fits_7 (by decide) (fun c_1 => ?_) (fun c_1 => ?_)
  · replace hw := hw.1 c_1
    refine lv_iconst (v := 0) hx hb d_Md_fits_14 (by decide) ?_
    refine lv_istore (lv' := [(8, .int 0), (0, .ref h), (1, .int wy), (2, .long fr), (4, .long cn), (6, .long al)]) hx hb d_Md_fits_15 hl (by decide) rfl (fun ls hl => ?_)
    refine lv_aload_n hx hb d_Md_fits_17 rfl (lv_at hl 1 rfl) ?_
    refine lv_iload hx hb d_Md_fits_18 (lv_at hl 0 rfl) ?_
    refine lv_if_eq (tgt := 30) hx hb d_Md_fits_20 (by decide) (fun _ => ?_) (fun c_2 => absurd c_2 (by decide))
    refine lv_iload_n hx hb d_Md_fits_30 rfl (lv_at hl 2 rfl) ?_
    refine va_put (D := G.1) (ci := 2) (v := .int wy) (ty := (.int)) (C := R_Md) (T := T_Md) (N := 37) hx hb hts in_Md ty_Md tk_Md nm_Md hown hK hP hD hS 0 rfl rfl 1 (by decide) (hts _ fl_Md_105) (fun _ h9 => h9) rfl (by decide +kernel) rfl rfl (Nat.le_of_ble_eq_true rfl) d_Md_fits_31 (fun H locs hP hD hS => ?_)
    have hP : va_P G.1 vwC [(h, .inr (2, [.int vth, .int wy, .int vme, .int vta, .int vpl, .int vel, .ref xpg, .ref xli, .ref xty, .ref xen, .ref xtl, .int vsg, .int vus, .int vrw, .int vur, .ref xst, .ref xmn, .ref xdr, .ref xhe, .ref xrs, .ref xrm, .ref xrd, .ref xhr, .int vwr, .int vch, .ref xki, .ref xin, .ref xpl, .ref xle, .ref xso, .ref xva, .ref xck, .ref xci, .ref xcp, .ref xcl, .ref xcs, .ref xcv]))] H := hP
    have hD : va_D A [(h, .inr (2, [.int vth, .int wy, .int vme, .int vta, .int vpl, .int vel, .ref xpg, .ref xli, .ref xty, .ref xen, .ref xtl, .int vsg, .int vus, .int vrw, .int vur, .ref xst, .ref xmn, .ref xdr, .ref xhe, .ref xrs, .ref xrm, .ref xrd, .ref xhr, .int vwr, .int vch, .ref xki, .ref xin, .ref xpl, .ref xle, .ref xso, .ref xva, .ref xck, .ref xci, .ref xcp, .ref xcl, .ref xcs, .ref xcv]))] := hD
    refine lv_iload hx hb d_Md_fits_34 (lv_at hl 0 rfl) ?_
    exact W.zret (v := 0) (ty := .boolean) hx hb hr rfl (fun t ht hW => ⟨⟨0, wy, rfl, hw, by have h9 := hP; rw [← ht] at h9; exact h9⟩, hS.F ht⟩) hS.2.2 d_Md_fits_36
  · replace hw := hw.2 c_1
    refine lv_iconst (v := 1) hx hb d_Md_fits_10 (by decide) ?_
    refine lv_goto (tgt := 15) hx hb d_Md_fits_11 (by decide) ?_
    refine lv_istore (lv' := [(8, .int 1), (0, .ref h), (1, .int wy), (2, .long fr), (4, .long cn), (6, .long al)]) hx hb d_Md_fits_15 hl (by decide) rfl (fun ls hl => ?_)
    refine lv_aload_n hx hb d_Md_fits_17 rfl (lv_at hl 1 rfl) ?_
    refine lv_iload hx hb d_Md_fits_18 (lv_at hl 0 rfl) ?_
    refine lv_if_eq (tgt := 30) hx hb d_Md_fits_20 (by decide) (fun c_3 => absurd c_3 (by decide)) (fun _ => ?_)
    refine lv_aload_n hx hb d_Md_fits_23 rfl (lv_at hl 1 rfl) ?_
    refine va_get (D := G.1) (ci := 2) (v := .int vtp) (C := R_Md) (T := T_Md) (N := 37) hx hb hts in_Md hown hK hP 0 rfl rfl 1 (by decide) (hts _ fl_Md_105) (fun _ h9 => h9) rfl d_Md_fits_24 ?_
    refine lv_goto (tgt := 31) hx hb d_Md_fits_27 (by decide) ?_
    refine va_put (D := G.1) (ci := 2) (v := .int vtp) (ty := (.int)) (C := R_Md) (T := T_Md) (N := 37) hx hb hts in_Md ty_Md tk_Md nm_Md hown hK hP hD hS 0 rfl rfl 1 (by decide) (hts _ fl_Md_105) (fun _ h9 => h9) rfl (by decide +kernel) rfl rfl (Nat.le_of_ble_eq_true rfl) d_Md_fits_31 (fun H locs hP hD hS => ?_)
    have hP : va_P G.1 vwC [(h, .inr (2, [.int vth, .int vtp, .int vme, .int vta, .int vpl, .int vel, .ref xpg, .ref xli, .ref xty, .ref xen, .ref xtl, .int vsg, .int vus, .int vrw, .int vur, .ref xst, .ref xmn, .ref xdr, .ref xhe, .ref xrs, .ref xrm, .ref xrd, .ref xhr, .int vwr, .int vch, .ref xki, .ref xin, .ref xpl, .ref xle, .ref xso, .ref xva, .ref xck, .ref xci, .ref xcp, .ref xcl, .ref xcs, .ref xcv]))] H := hP
    have hD : va_D A [(h, .inr (2, [.int vth, .int vtp, .int vme, .int vta, .int vpl, .int vel, .ref xpg, .ref xli, .ref xty, .ref xen, .ref xtl, .int vsg, .int vus, .int vrw, .int vur, .ref xst, .ref xmn, .ref xdr, .ref xhe, .ref xrs, .ref xrm, .ref xrd, .ref xhr, .int vwr, .int vch, .ref xki, .ref xin, .ref xpl, .ref xle, .ref xso, .ref xva, .ref xck, .ref xci, .ref xcp, .ref xcl, .ref xcs, .ref xcv]))] := hD
    refine lv_iload hx hb d_Md_fits_34 (lv_at hl 0 rfl) ?_
    exact W.zret (v := 1) (ty := .boolean) hx hb hr rfl (fun t ht hW => ⟨⟨1, vtp, rfl, hw, by have h9 := hP; rw [← ht] at h9; exact h9⟩, hS.F ht⟩) hS.2.2 d_Md_fits_36
theorem c_Md_fits (l : Launch) (G : cxT) (h : Nat) (xpg : Nat) (xli : Nat) (xty : Nat) (xen : Nat) (xtl : Nat) (xst : Nat) (xmn : Nat) (xdr : Nat) (xhe : Nat) (xrs : Nat) (xrm : Nat) (xrd : Nat) (xhr : Nat) (xki : Nat) (xin : Nat) (xpl : Nat) (xle : Nat) (xso : Nat) (xva : Nat) (xck : Nat) (xci : Nat) (xcp : Nat) (xcl : Nat) (xcs : Nat) (xcv : Nat) (vth : Int32) (vtp : Int32) (vme : Int32) (vta : Int32) (vpl : Int32) (vel : Int32) (vsg : Int32) (vus : Int32) (vrw : Int32) (vur : Int32) (vwr : Int32) (vch : Int32) (wy : Int32) (fr : Int64) (cn : Int64) (al : Int64) (sz : Nat) : Met l y_Md_fits [.code y_Md_fits b_Md_fits 9 (some .boolean)] ({ frames := 0, cells := 0, slots := 0, locals := 0 } : Room) (cm G [.ref h, .int wy, .long fr, .long cn, .long al] [(h, .inr (2, [.int vth, .int vtp, .int vme, .int vta, .int vpl, .int vel, .ref xpg, .ref xli, .ref xty, .ref xen, .ref xtl, .int vsg, .int vus, .int vrw, .int vur, .ref xst, .ref xmn, .ref xdr, .ref xhe, .ref xrs, .ref xrm, .ref xrd, .ref xhr, .int vwr, .int vch, .ref xki, .ref xin, .ref xpl, .ref xle, .ref xso, .ref xva, .ref xck, .ref xci, .ref xcp, .ref xcl, .ref xcs, .ref xcv]))] sz) (va_Qi (fun r u => r = (fit_of fr cn al) ∧ u = if 0 < lg_cmp (fr + cn) al then wy else vtp) (fun u t => va_P G.1 vwC [(h, .inr (2, [.int vth, .int u, .int vme, .int vta, .int vpl, .int vel, .ref xpg, .ref xli, .ref xty, .ref xen, .ref xtl, .int vsg, .int vus, .int vrw, .int vur, .ref xst, .ref xmn, .ref xdr, .ref xhe, .ref xrs, .ref xrm, .ref xrd, .ref xhr, .int vwr, .int vch, .ref xki, .ref xin, .ref xpl, .ref xle, .ref xso, .ref xva, .ref xck, .ref xci, .ref xcp, .ref xcl, .ref xcs, .ref xcv]))] t.heap) (va_A [(h, .inr (2, [.int vth, .int vtp, .int vme, .int vta, .int vpl, .int vel, .ref xpg, .ref xli, .ref xty, .ref xen, .ref xtl, .int vsg, .int vus, .int vrw, .int vur, .ref xst, .ref xmn, .ref xdr, .ref xhe, .ref xrs, .ref xrm, .ref xrd, .ref xhr, .int vwr, .int vch, .ref xki, .ref xin, .ref xpl, .ref xle, .ref xso, .ref xva, .ref xck, .ref xci, .ref xcp, .ref xcl, .ref xcs, .ref xcv]))] sz)) 0 0 (va_A [(h, .inr (2, [.int vth, .int vtp, .int vme, .int vta, .int vpl, .int vel, .ref xpg, .ref xli, .ref xty, .ref xen, .ref xtl, .int vsg, .int vus, .int vrw, .int vur, .ref xst, .ref xmn, .ref xdr, .ref xhe, .ref xrs, .ref xrm, .ref xrd, .ref xhr, .int vwr, .int vch, .ref xki, .ref xin, .ref xpl, .ref xle, .ref xso, .ref xva, .ref xck, .ref xci, .ref xcp, .ref xcl, .ref xcs, .ref xcv]))] sz) :=
  t_Md_fits l G h xpg xli xty xen xtl xst xmn xdr xhe xrs xrm xrd xhr xki xin xpl xle xso xva xck xci xcp xcl xcs xcv vth vtp vme vta vpl vel vsg vus vrw vur vwr vch wy fr cn al sz (fun r u => r = (fit_of fr cn al) ∧ u = if 0 < lg_cmp (fr + cn) al then wy else vtp) (by
    unfold wp_Md_fits fit_of
    exact ⟨fun c1 => by simp [c1], fun c1 => by simp [c1]⟩)
def wp_Md_all (post : Int64 → Prop) (vth : Int32) (vtp : Int32) (vme : Int32) (vta : Int32) (vpl : Int32) (vel : Int32) (vsg : Int32) (vus : Int32) (vrw : Int32) (vur : Int32) (vwr : Int32) (vch : Int32) (gpg : Nat → Int32) (k : Int32) : Prop := (vp_in k 6) ∧ (post (((gpg k.toNatClampNeg).toInt64) * 256))
set_option maxHeartbeats 4000000 in
set_option maxRecDepth 100000 in
theorem t_Md_all (l : Launch) (G : cxT) (h : Nat) (xpg : Nat) (xli : Nat) (xty : Nat) (xen : Nat) (xtl : Nat) (xst : Nat) (xmn : Nat) (xdr : Nat) (xhe : Nat) (xrs : Nat) (xrm : Nat) (xrd : Nat) (xhr : Nat) (xki : Nat) (xin : Nat) (xpl : Nat) (xle : Nat) (xso : Nat) (xva : Nat) (xck : Nat) (xci : Nat) (xcp : Nat) (xcl : Nat) (xcs : Nat) (xcv : Nat) (vth : Int32) (vtp : Int32) (vme : Int32) (vta : Int32) (vpl : Int32) (vel : Int32) (vsg : Int32) (vus : Int32) (vrw : Int32) (vur : Int32) (vwr : Int32) (vch : Int32) (gpg : Nat → Int32) (k : Int32) (post : Int64 → Prop) (hw : wp_Md_all post vth vtp vme vta vpl vel vsg vus vrw vur vwr vch gpg k) : Met l y_Md_all [.code y_Md_all b_Md_all 2 (some .long)] ({ frames := 0, cells := 0, slots := 0, locals := 0 } : Room) (cp G [.ref h, .int k] [(h, .inr (2, [.int vth, .int vtp, .int vme, .int vta, .int vpl, .int vel, .ref xpg, .ref xli, .ref xty, .ref xen, .ref xtl, .int vsg, .int vus, .int vrw, .int vur, .ref xst, .ref xmn, .ref xdr, .ref xhe, .ref xrs, .ref xrm, .ref xrd, .ref xhr, .int vwr, .int vch, .ref xki, .ref xin, .ref xpl, .ref xle, .ref xso, .ref xva, .ref xck, .ref xci, .ref xcp, .ref xcl, .ref xcs, .ref xcv])), (xpg, .inl (G.2.1 0, 6, .inl gpg))]) (va_Ql (fun r (_ : Unit) => post r) (fun _ _ => True) (fun _ => False)) 0 0 (fun _ => False) := by
  refine Met.ofW (cc := b_Md_all) (maxL := 2) (ret := (some .long)) (by decide +kernel) rfl ?_
  intro p e s m args below meth c s₁ B hml hv
  obtain ⟨rfl, hcx, hP⟩ := hv
  have hx := B.exec
  have hb := B.bytes
  have hr := B.returns
  have hlocks := B.notSynchronized
  have hown : s.vm.findClass R_Md = some m.cls := findClass_of_methodNamed B.named
  have hS : va_S (fun _ => False) s.heap s.heap [] := va_S.rf
  have hts := hcx.now.1 [.ref h, .int k].toArray
  have hK := hcx.now.2.1
  have hl := lv_entry ([.ref h, .int k]) (n := 2) (Nat.le_of_ble_eq_true rfl)
  rw [lg_entry_eq]
  generalize (lg_sl ([.ref h, .int k]) ++ List.replicate (2 - (lg_sl ([.ref h, .int k])).length) Slot.unset).toArray = ls at hl ⊢
  have hl : lv_has ls 2 [(0, .ref h), (1, .int k)] := hl
  unfold wp_Md_all at hw
  refine lv_aload_n hx hb d_Md_all_0 rfl (lv_at hl 0 rfl) ?_
  refine va_get (D := G.1) (ci := 2) (v := .ref xpg) (C := R_Md) (T := T_Md) (N := 37) hx hb hts in_Md hown hK hP 0 rfl rfl 6 (by decide) (hts _ fl_Md_16) (fun _ h9 => h9) rfl d_Md_all_1 ?_
  refine lv_iload_n hx hb d_Md_all_4 rfl (lv_at hl 1 rfl) ?_
  obtain ⟨h_1, hw⟩ := hw
  refine va_iald hx hb hK hP 1 0 rfl rfl h_1 d_Md_all_5 ?_
  refine lv_i2l (v := (gpg k.toNatClampNeg).toInt64) hx hb d_Md_all_6 rfl ?_
  refine lv_ldc2 (v := 256) hx hb hown (hts _ k_Md_108) d_Md_all_7 ?_
  refine lv_lmul hx hb d_Md_all_10 ?_
  exact W.lret (v := ((gpg k.toNatClampNeg).toInt64) * 256) hx hb hr (fun t ht hW => ⟨⟨((gpg k.toNatClampNeg).toInt64) * 256, (), rfl, hw, trivial⟩, hS.F ht⟩) hS.2.2 d_Md_all_11
theorem c_Md_all (l : Launch) (G : cxT) (h : Nat) (xpg : Nat) (xli : Nat) (xty : Nat) (xen : Nat) (xtl : Nat) (xst : Nat) (xmn : Nat) (xdr : Nat) (xhe : Nat) (xrs : Nat) (xrm : Nat) (xrd : Nat) (xhr : Nat) (xki : Nat) (xin : Nat) (xpl : Nat) (xle : Nat) (xso : Nat) (xva : Nat) (xck : Nat) (xci : Nat) (xcp : Nat) (xcl : Nat) (xcs : Nat) (xcv : Nat) (vth : Int32) (vtp : Int32) (vme : Int32) (vta : Int32) (vpl : Int32) (vel : Int32) (vsg : Int32) (vus : Int32) (vrw : Int32) (vur : Int32) (vwr : Int32) (vch : Int32) (gpg : Nat → Int32) (k : Int32) (h0 : vp_in k 6) : Met l y_Md_all [.code y_Md_all b_Md_all 2 (some .long)] ({ frames := 0, cells := 0, slots := 0, locals := 0 } : Room) (cp G [.ref h, .int k] [(h, .inr (2, [.int vth, .int vtp, .int vme, .int vta, .int vpl, .int vel, .ref xpg, .ref xli, .ref xty, .ref xen, .ref xtl, .int vsg, .int vus, .int vrw, .int vur, .ref xst, .ref xmn, .ref xdr, .ref xhe, .ref xrs, .ref xrm, .ref xrd, .ref xhr, .int vwr, .int vch, .ref xki, .ref xin, .ref xpl, .ref xle, .ref xso, .ref xva, .ref xck, .ref xci, .ref xcp, .ref xcl, .ref xcs, .ref xcv])), (xpg, .inl (G.2.1 0, 6, .inl gpg))]) (va_Ql (fun r (_ : Unit) => (fun r => r = ((gpg k.toNatClampNeg).toInt64 * 256)) r) (fun _ _ => True) (fun _ => False)) 0 0 (fun _ => False) :=
  t_Md_all l G h xpg xli xty xen xtl xst xmn xdr xhe xrs xrm xrd xhr xki xin xpl xle xso xva xck xci xcp xcl xcs xcv vth vtp vme vta vpl vel vsg vus vrw vur vwr vch gpg k (fun r => r = ((gpg k.toNatClampNeg).toInt64 * 256)) (by
    exact ⟨h0, rfl⟩)
def wp_Md_begin (post : Int32 → (Int32 × Int32) → Prop) (vth : Int32) (vtp : Int32) (vme : Int32) (vta : Int32) (vpl : Int32) (vel : Int32) (vsg : Int32) (vus : Int32) (vrw : Int32) (vur : Int32) (vwr : Int32) (vch : Int32) (gd : Int32) : Prop := ((gd = 0 → ((narrow .boolean (.int gd) = .int gd) ∧ (post gd (1, 0)))) ∧ (¬ gd = 0 → ((narrow .boolean (.int gd) = .int gd) ∧ (post gd (0, 0)))))
set_option maxHeartbeats 4000000 in
set_option maxRecDepth 100000 in
theorem t_Md_begin (l : Launch) (G : cxT) (h : Nat) (xpg : Nat) (xli : Nat) (xty : Nat) (xen : Nat) (xtl : Nat) (xst : Nat) (xmn : Nat) (xdr : Nat) (xhe : Nat) (xrs : Nat) (xrm : Nat) (xrd : Nat) (xhr : Nat) (xki : Nat) (xin : Nat) (xpl : Nat) (xle : Nat) (xso : Nat) (xva : Nat) (xck : Nat) (xci : Nat) (xcp : Nat) (xcl : Nat) (xcs : Nat) (xcv : Nat) (vth : Int32) (vtp : Int32) (vme : Int32) (vta : Int32) (vpl : Int32) (vel : Int32) (vsg : Int32) (vus : Int32) (vrw : Int32) (vur : Int32) (vwr : Int32) (vch : Int32) (gd : Int32) (sz : Nat) (post : Int32 → (Int32 × Int32) → Prop) (hw : wp_Md_begin post vth vtp vme vta vpl vel vsg vus vrw vur vwr vch gd) : Met l y_Md_begin [.code y_Md_begin b_Md_begin 2 (some .boolean)] ({ frames := 0, cells := 0, slots := 0, locals := 0 } : Room) (cm G [.ref h, .int gd] [(h, .inr (2, [.int vth, .int vtp, .int vme, .int vta, .int vpl, .int vel, .ref xpg, .ref xli, .ref xty, .ref xen, .ref xtl, .int vsg, .int vus, .int vrw, .int vur, .ref xst, .ref xmn, .ref xdr, .ref xhe, .ref xrs, .ref xrm, .ref xrd, .ref xhr, .int vwr, .int vch, .ref xki, .ref xin, .ref xpl, .ref xle, .ref xso, .ref xva, .ref xck, .ref xci, .ref xcp, .ref xcl, .ref xcs, .ref xcv]))] sz) (va_Qi post (fun u t => va_P G.1 vwC [(h, .inr (2, [.int u.1, .int u.2, .int vme, .int vta, .int vpl, .int vel, .ref xpg, .ref xli, .ref xty, .ref xen, .ref xtl, .int vsg, .int vus, .int vrw, .int vur, .ref xst, .ref xmn, .ref xdr, .ref xhe, .ref xrs, .ref xrm, .ref xrd, .ref xhr, .int vwr, .int vch, .ref xki, .ref xin, .ref xpl, .ref xle, .ref xso, .ref xva, .ref xck, .ref xci, .ref xcp, .ref xcl, .ref xcs, .ref xcv]))] t.heap) (va_A [(h, .inr (2, [.int vth, .int vtp, .int vme, .int vta, .int vpl, .int vel, .ref xpg, .ref xli, .ref xty, .ref xen, .ref xtl, .int vsg, .int vus, .int vrw, .int vur, .ref xst, .ref xmn, .ref xdr, .ref xhe, .ref xrs, .ref xrm, .ref xrd, .ref xhr, .int vwr, .int vch, .ref xki, .ref xin, .ref xpl, .ref xle, .ref xso, .ref xva, .ref xck, .ref xci, .ref xcp, .ref xcl, .ref xcs, .ref xcv]))] sz)) 0 0 (va_A [(h, .inr (2, [.int vth, .int vtp, .int vme, .int vta, .int vpl, .int vel, .ref xpg, .ref xli, .ref xty, .ref xen, .ref xtl, .int vsg, .int vus, .int vrw, .int vur, .ref xst, .ref xmn, .ref xdr, .ref xhe, .ref xrs, .ref xrm, .ref xrd, .ref xhr, .int vwr, .int vch, .ref xki, .ref xin, .ref xpl, .ref xle, .ref xso, .ref xva, .ref xck, .ref xci, .ref xcp, .ref xcl, .ref xcs, .ref xcv]))] sz) := by
  refine Met.ofW (cc := b_Md_begin) (maxL := 2) (ret := (some .boolean)) (by decide +kernel) rfl ?_
  intro p e s m args below meth c s₁ B hml hv
  obtain ⟨rfl, hsz, hcx, hP, hD0⟩ := hv
  have hx := B.exec
  have hb := B.bytes
  have hr := B.returns
  have hlocks := B.notSynchronized
  have hown : s.vm.findClass R_Md = some m.cls := findClass_of_methodNamed B.named
  subst hsz
  have hD := hD0.self (sz := s.heap.size)
  generalize hAe : va_A [(h, .inr (2, [.int vth, .int vtp, .int vme, .int vta, .int vpl, .int vel, .ref xpg, .ref xli, .ref xty, .ref xen, .ref xtl, .int vsg, .int vus, .int vrw, .int vur, .ref xst, .ref xmn, .ref xdr, .ref xhe, .ref xrs, .ref xrm, .ref xrd, .ref xhr, .int vwr, .int vch, .ref xki, .ref xin, .ref xpl, .ref xle, .ref xso, .ref xva, .ref xck, .ref xci, .ref xcp, .ref xcl, .ref xcs, .ref xcv]))] s.heap.size = A at hD hcx ⊢
  have hA : ∀ q : Nat, s.heap.size ≤ q → A q := fun q h => by rw [← hAe]; exact Or.inr h
  have hS : va_S A s.heap s.heap [] := va_S.rf
  have hts := hcx.now.1 [.ref h, .int gd].toArray
  have hK := hcx.now.2.1
  have hl := lv_entry ([.ref h, .int gd]) (n := 2) (Nat.le_of_ble_eq_true rfl)
  rw [lg_entry_eq]
  generalize (lg_sl ([.ref h, .int gd]) ++ List.replicate (2 - (lg_sl ([.ref h, .int gd])).length) Slot.unset).toArray = ls at hl ⊢
  have hl : lv_has ls 2 [(0, .ref h), (1, .int gd)] := hl
  unfold wp_Md_begin at hw
  refine lv_aload_n hx hb d_Md_begin_0 rfl (lv_at hl 0 rfl) ?_
  refine lv_iconst (v := 0) hx hb d_Md_begin_1 (by decide) ?_
  refine va_put (D := G.1) (ci := 2) (v := .int 0) (ty := (.int)) (C := R_Md) (T := T_Md) (N := 37) hx hb hts in_Md ty_Md tk_Md nm_Md hown hK hP hD hS 0 rfl rfl 1 (by decide) (hts _ fl_Md_105) (fun _ h9 => h9) rfl (by decide +kernel) rfl rfl (Nat.le_of_ble_eq_true rfl) d_Md_begin_2 (fun H locs hP hD hS => ?_)
  have hP : va_P G.1 vwC [(h, .inr (2, [.int vth, .int 0, .int vme, .int vta, .int vpl, .int vel, .ref xpg, .ref xli, .ref xty, .ref xen, .ref xtl, .int vsg, .int vus, .int vrw, .int vur, .ref xst, .ref xmn, .ref xdr, .ref xhe, .ref xrs, .ref xrm, .ref xrd, .ref xhr, .int vwr, .int vch, .ref xki, .ref xin, .ref xpl, .ref xle, .ref xso, .ref xva, .ref xck, .ref xci, .ref xcp, .ref xcl, .ref xcs, .ref xcv]))] H := hP
  have hD : va_D A [(h, .inr (2, [.int vth, .int 0, .int vme, .int vta, .int vpl, .int vel, .ref xpg, .ref xli, .ref xty, .ref xen, .ref xtl, .int vsg, .int vus, .int vrw, .int vur, .ref xst, .ref xmn, .ref xdr, .ref xhe, .ref xrs, .ref xrm, .ref xrd, .ref xhr, .int vwr, .int vch, .ref xki, .ref xin, .ref xpl, .ref xle, .ref xso, .ref xva, .ref xck, .ref xci, .ref xcp, .ref xcl, .ref xcs, .ref xcv]))] := hD
  refine lv_aload_n hx hb d_Md_begin_5 rfl (lv_at hl 0 rfl) ?_
  refine lv_iload_n hx hb d_Md_begin_6 rfl (lv_at hl 1 rfl) ?_
  refine lv_if_eq (tgt := 14) hx hb d_Md_begin_7 (by decide) (fun c_1 => ?_) (fun c_1 => ?_)
  · replace hw := hw.1 c_1
    refine lv_iconst (v := 1) hx hb d_Md_begin_14 (by decide) ?_
    refine va_put (D := G.1) (ci := 2) (v := .int 1) (ty := (.int)) (C := R_Md) (T := T_Md) (N := 37) hx hb hts in_Md ty_Md tk_Md nm_Md hown hK hP hD hS 0 rfl rfl 0 (by decide) (hts _ fl_Md_94) (fun _ h9 => h9) rfl (by decide +kernel) rfl rfl (Nat.le_of_ble_eq_true rfl) d_Md_begin_15 (fun H locs hP hD hS => ?_)
    have hP : va_P G.1 vwC [(h, .inr (2, [.int 1, .int 0, .int vme, .int vta, .int vpl, .int vel, .ref xpg, .ref xli, .ref xty, .ref xen, .ref xtl, .int vsg, .int vus, .int vrw, .int vur, .ref xst, .ref xmn, .ref xdr, .ref xhe, .ref xrs, .ref xrm, .ref xrd, .ref xhr, .int vwr, .int vch, .ref xki, .ref xin, .ref xpl, .ref xle, .ref xso, .ref xva, .ref xck, .ref xci, .ref xcp, .ref xcl, .ref xcs, .ref xcv]))] H := hP
    have hD : va_D A [(h, .inr (2, [.int 1, .int 0, .int vme, .int vta, .int vpl, .int vel, .ref xpg, .ref xli, .ref xty, .ref xen, .ref xtl, .int vsg, .int vus, .int vrw, .int vur, .ref xst, .ref xmn, .ref xdr, .ref xhe, .ref xrs, .ref xrm, .ref xrd, .ref xhr, .int vwr, .int vch, .ref xki, .ref xin, .ref xpl, .ref xle, .ref xso, .ref xva, .ref xck, .ref xci, .ref xcp, .ref xcl, .ref xcs, .ref xcv]))] := hD
    refine lv_iload_n hx hb d_Md_begin_18 rfl (lv_at hl 1 rfl) ?_
    obtain ⟨h_2, hw⟩ := hw
    exact W.zret (v := gd) (ty := .boolean) hx hb hr h_2 (fun t ht hW => ⟨⟨gd, (1, 0), rfl, hw, by have h9 := hP; rw [← ht] at h9; exact h9⟩, hS.F ht⟩) hS.2.2 d_Md_begin_19
  · replace hw := hw.2 c_1
    refine lv_iconst (v := 0) hx hb d_Md_begin_10 (by decide) ?_
    refine lv_goto (tgt := 15) hx hb d_Md_begin_11 (by decide) ?_
    refine va_put (D := G.1) (ci := 2) (v := .int 0) (ty := (.int)) (C := R_Md) (T := T_Md) (N := 37) hx hb hts in_Md ty_Md tk_Md nm_Md hown hK hP hD hS 0 rfl rfl 0 (by decide) (hts _ fl_Md_94) (fun _ h9 => h9) rfl (by decide +kernel) rfl rfl (Nat.le_of_ble_eq_true rfl) d_Md_begin_15 (fun H locs hP hD hS => ?_)
    have hP : va_P G.1 vwC [(h, .inr (2, [.int 0, .int 0, .int vme, .int vta, .int vpl, .int vel, .ref xpg, .ref xli, .ref xty, .ref xen, .ref xtl, .int vsg, .int vus, .int vrw, .int vur, .ref xst, .ref xmn, .ref xdr, .ref xhe, .ref xrs, .ref xrm, .ref xrd, .ref xhr, .int vwr, .int vch, .ref xki, .ref xin, .ref xpl, .ref xle, .ref xso, .ref xva, .ref xck, .ref xci, .ref xcp, .ref xcl, .ref xcs, .ref xcv]))] H := hP
    have hD : va_D A [(h, .inr (2, [.int 0, .int 0, .int vme, .int vta, .int vpl, .int vel, .ref xpg, .ref xli, .ref xty, .ref xen, .ref xtl, .int vsg, .int vus, .int vrw, .int vur, .ref xst, .ref xmn, .ref xdr, .ref xhe, .ref xrs, .ref xrm, .ref xrd, .ref xhr, .int vwr, .int vch, .ref xki, .ref xin, .ref xpl, .ref xle, .ref xso, .ref xva, .ref xck, .ref xci, .ref xcp, .ref xcl, .ref xcs, .ref xcv]))] := hD
    refine lv_iload_n hx hb d_Md_begin_18 rfl (lv_at hl 1 rfl) ?_
    obtain ⟨h_3, hw⟩ := hw
    exact W.zret (v := gd) (ty := .boolean) hx hb hr h_3 (fun t ht hW => ⟨⟨gd, (0, 0), rfl, hw, by have h9 := hP; rw [← ht] at h9; exact h9⟩, hS.F ht⟩) hS.2.2 d_Md_begin_19
theorem c_Md_begin (l : Launch) (G : cxT) (h : Nat) (xpg : Nat) (xli : Nat) (xty : Nat) (xen : Nat) (xtl : Nat) (xst : Nat) (xmn : Nat) (xdr : Nat) (xhe : Nat) (xrs : Nat) (xrm : Nat) (xrd : Nat) (xhr : Nat) (xki : Nat) (xin : Nat) (xpl : Nat) (xle : Nat) (xso : Nat) (xva : Nat) (xck : Nat) (xci : Nat) (xcp : Nat) (xcl : Nat) (xcs : Nat) (xcv : Nat) (vth : Int32) (vtp : Int32) (vme : Int32) (vta : Int32) (vpl : Int32) (vel : Int32) (vsg : Int32) (vus : Int32) (vrw : Int32) (vur : Int32) (vwr : Int32) (vch : Int32) (gd : Int32) (sz : Nat) (h0 : narrow .boolean (.int gd) = .int gd) : Met l y_Md_begin [.code y_Md_begin b_Md_begin 2 (some .boolean)] ({ frames := 0, cells := 0, slots := 0, locals := 0 } : Room) (cm G [.ref h, .int gd] [(h, .inr (2, [.int vth, .int vtp, .int vme, .int vta, .int vpl, .int vel, .ref xpg, .ref xli, .ref xty, .ref xen, .ref xtl, .int vsg, .int vus, .int vrw, .int vur, .ref xst, .ref xmn, .ref xdr, .ref xhe, .ref xrs, .ref xrm, .ref xrd, .ref xhr, .int vwr, .int vch, .ref xki, .ref xin, .ref xpl, .ref xle, .ref xso, .ref xva, .ref xck, .ref xci, .ref xcp, .ref xcl, .ref xcs, .ref xcv]))] sz) (va_Qi (fun r u => r = gd ∧ u = ((if gd = 0 then 1 else 0), 0)) (fun u t => va_P G.1 vwC [(h, .inr (2, [.int u.1, .int u.2, .int vme, .int vta, .int vpl, .int vel, .ref xpg, .ref xli, .ref xty, .ref xen, .ref xtl, .int vsg, .int vus, .int vrw, .int vur, .ref xst, .ref xmn, .ref xdr, .ref xhe, .ref xrs, .ref xrm, .ref xrd, .ref xhr, .int vwr, .int vch, .ref xki, .ref xin, .ref xpl, .ref xle, .ref xso, .ref xva, .ref xck, .ref xci, .ref xcp, .ref xcl, .ref xcs, .ref xcv]))] t.heap) (va_A [(h, .inr (2, [.int vth, .int vtp, .int vme, .int vta, .int vpl, .int vel, .ref xpg, .ref xli, .ref xty, .ref xen, .ref xtl, .int vsg, .int vus, .int vrw, .int vur, .ref xst, .ref xmn, .ref xdr, .ref xhe, .ref xrs, .ref xrm, .ref xrd, .ref xhr, .int vwr, .int vch, .ref xki, .ref xin, .ref xpl, .ref xle, .ref xso, .ref xva, .ref xck, .ref xci, .ref xcp, .ref xcl, .ref xcs, .ref xcv]))] sz)) 0 0 (va_A [(h, .inr (2, [.int vth, .int vtp, .int vme, .int vta, .int vpl, .int vel, .ref xpg, .ref xli, .ref xty, .ref xen, .ref xtl, .int vsg, .int vus, .int vrw, .int vur, .ref xst, .ref xmn, .ref xdr, .ref xhe, .ref xrs, .ref xrm, .ref xrd, .ref xhr, .int vwr, .int vch, .ref xki, .ref xin, .ref xpl, .ref xle, .ref xso, .ref xva, .ref xck, .ref xci, .ref xcp, .ref xcl, .ref xcs, .ref xcv]))] sz) :=
  t_Md_begin l G h xpg xli xty xen xtl xst xmn xdr xhe xrs xrm xrd xhr xki xin xpl xle xso xva xck xci xcp xcl xcs xcv vth vtp vme vta vpl vel vsg vus vrw vur vwr vch gd sz (fun r u => r = gd ∧ u = ((if gd = 0 then 1 else 0), 0)) (by
    unfold wp_Md_begin
    exact ⟨fun c1 => ⟨h0, by simp [c1]⟩, fun c1 => ⟨h0, by simp [c1]⟩⟩)
def wp_Md_trapped (post : Int32 → Int32 → Prop) (vth : Int32) (vtp : Int32) (vme : Int32) (vta : Int32) (vpl : Int32) (vel : Int32) (vsg : Int32) (vus : Int32) (vrw : Int32) (vur : Int32) (vwr : Int32) (vch : Int32) : Prop := ((vtp ≤ 0 → (((vtp ≤ 0 → (post 0 0)) ∧ (¬ vtp ≤ 0 → (post 1 0))))) ∧ (¬ vtp ≤ 0 → (((vtp ≤ 0 → (post 0 2)) ∧ (¬ vtp ≤ 0 → (post 1 2))))))
set_option maxHeartbeats 4000000 in
set_option maxRecDepth 100000 in
theorem t_Md_trapped (l : Launch) (G : cxT) (h : Nat) (xpg : Nat) (xli : Nat) (xty : Nat) (xen : Nat) (xtl : Nat) (xst : Nat) (xmn : Nat) (xdr : Nat) (xhe : Nat) (xrs : Nat) (xrm : Nat) (xrd : Nat) (xhr : Nat) (xki : Nat) (xin : Nat) (xpl : Nat) (xle : Nat) (xso : Nat) (xva : Nat) (xck : Nat) (xci : Nat) (xcp : Nat) (xcl : Nat) (xcs : Nat) (xcv : Nat) (vth : Int32) (vtp : Int32) (vme : Int32) (vta : Int32) (vpl : Int32) (vel : Int32) (vsg : Int32) (vus : Int32) (vrw : Int32) (vur : Int32) (vwr : Int32) (vch : Int32) (sz : Nat) (post : Int32 → Int32 → Prop) (hw : wp_Md_trapped post vth vtp vme vta vpl vel vsg vus vrw vur vwr vch) : Met l y_Md_trapped [.code y_Md_trapped b_Md_trapped 1 (some .boolean)] ({ frames := 0, cells := 0, slots := 0, locals := 0 } : Room) (cm G [.ref h] [(h, .inr (2, [.int vth, .int vtp, .int vme, .int vta, .int vpl, .int vel, .ref xpg, .ref xli, .ref xty, .ref xen, .ref xtl, .int vsg, .int vus, .int vrw, .int vur, .ref xst, .ref xmn, .ref xdr, .ref xhe, .ref xrs, .ref xrm, .ref xrd, .ref xhr, .int vwr, .int vch, .ref xki, .ref xin, .ref xpl, .ref xle, .ref xso, .ref xva, .ref xck, .ref xci, .ref xcp, .ref xcl, .ref xcs, .ref xcv]))] sz) (va_Qi post (fun u t => va_P G.1 vwC [(h, .inr (2, [.int u, .int vtp, .int vme, .int vta, .int vpl, .int vel, .ref xpg, .ref xli, .ref xty, .ref xen, .ref xtl, .int vsg, .int vus, .int vrw, .int vur, .ref xst, .ref xmn, .ref xdr, .ref xhe, .ref xrs, .ref xrm, .ref xrd, .ref xhr, .int vwr, .int vch, .ref xki, .ref xin, .ref xpl, .ref xle, .ref xso, .ref xva, .ref xck, .ref xci, .ref xcp, .ref xcl, .ref xcs, .ref xcv]))] t.heap) (va_A [(h, .inr (2, [.int vth, .int vtp, .int vme, .int vta, .int vpl, .int vel, .ref xpg, .ref xli, .ref xty, .ref xen, .ref xtl, .int vsg, .int vus, .int vrw, .int vur, .ref xst, .ref xmn, .ref xdr, .ref xhe, .ref xrs, .ref xrm, .ref xrd, .ref xhr, .int vwr, .int vch, .ref xki, .ref xin, .ref xpl, .ref xle, .ref xso, .ref xva, .ref xck, .ref xci, .ref xcp, .ref xcl, .ref xcs, .ref xcv]))] sz)) 0 0 (va_A [(h, .inr (2, [.int vth, .int vtp, .int vme, .int vta, .int vpl, .int vel, .ref xpg, .ref xli, .ref xty, .ref xen, .ref xtl, .int vsg, .int vus, .int vrw, .int vur, .ref xst, .ref xmn, .ref xdr, .ref xhe, .ref xrs, .ref xrm, .ref xrd, .ref xhr, .int vwr, .int vch, .ref xki, .ref xin, .ref xpl, .ref xle, .ref xso, .ref xva, .ref xck, .ref xci, .ref xcp, .ref xcl, .ref xcs, .ref xcv]))] sz) := by
  refine Met.ofW (cc := b_Md_trapped) (maxL := 1) (ret := (some .boolean)) (by decide +kernel) rfl ?_
  intro p e s m args below meth c s₁ B hml hv
  obtain ⟨rfl, hsz, hcx, hP, hD0⟩ := hv
  have hx := B.exec
  have hb := B.bytes
  have hr := B.returns
  have hlocks := B.notSynchronized
  have hown : s.vm.findClass R_Md = some m.cls := findClass_of_methodNamed B.named
  subst hsz
  have hD := hD0.self (sz := s.heap.size)
  generalize hAe : va_A [(h, .inr (2, [.int vth, .int vtp, .int vme, .int vta, .int vpl, .int vel, .ref xpg, .ref xli, .ref xty, .ref xen, .ref xtl, .int vsg, .int vus, .int vrw, .int vur, .ref xst, .ref xmn, .ref xdr, .ref xhe, .ref xrs, .ref xrm, .ref xrd, .ref xhr, .int vwr, .int vch, .ref xki, .ref xin, .ref xpl, .ref xle, .ref xso, .ref xva, .ref xck, .ref xci, .ref xcp, .ref xcl, .ref xcs, .ref xcv]))] s.heap.size = A at hD hcx ⊢
  have hA : ∀ q : Nat, s.heap.size ≤ q → A q := fun q h => by rw [← hAe]; exact Or.inr h
  have hS : va_S A s.heap s.heap [] := va_S.rf
  have hts := hcx.now.1 [.ref h].toArray
  have hK := hcx.now.2.1
  have hl := lv_entry ([.ref h]) (n := 1) (Nat.le_of_ble_eq_true rfl)
  rw [lg_entry_eq]
  generalize (lg_sl ([.ref h]) ++ List.replicate (1 - (lg_sl ([.ref h])).length) Slot.unset).toArray = ls at hl ⊢
  have hl : lv_has ls 1 [(0, .ref h)] := hl
  unfold wp_Md_trapped at hw
  refine lv_aload_n hx hb d_Md_trapped_0 rfl (lv_at hl 0 rfl) ?_
  refine lv_aload_n hx hb d_Md_trapped_1 rfl (lv_at hl 0 rfl) ?_
  refine va_get (D := G.1) (ci := 2) (v := .int vtp) (C := R_Md) (T := T_Md) (N := 37) hx hb hts in_Md hown hK hP 0 rfl rfl 1 (by decide) (hts _ fl_Md_105) (fun _ h9 => h9) rfl d_Md_trapped_2 ?_
  refine lv_if_le (tgt := 12) hx hb d_Md_trapped_5 (by decide) (fun c_1 => ?_) (fun c_1 => ?_)
  · replace hw := hw.1 c_1
    refine lv_iconst (v := 0) hx hb d_Md_trapped_12 (by decide) ?_
    refine va_put (D := G.1) (ci := 2) (v := .int 0) (ty := (.int)) (C := R_Md) (T := T_Md) (N := 37) hx hb hts in_Md ty_Md tk_Md nm_Md hown hK hP hD hS 0 rfl rfl 0 (by decide) (hts _ fl_Md_94) (fun _ h9 => h9) rfl (by decide +kernel) rfl rfl (Nat.le_of_ble_eq_true rfl) d_Md_trapped_13 (fun H locs hP hD hS => ?_)
    have hP : va_P G.1 vwC [(h, .inr (2, [.int 0, .int vtp, .int vme, .int vta, .int vpl, .int vel, .ref xpg, .ref xli, .ref xty, .ref xen, .ref xtl, .int vsg, .int vus, .int vrw, .int vur, .ref xst, .ref xmn, .ref xdr, .ref xhe, .ref xrs, .ref xrm, .ref xrd, .ref xhr, .int vwr, .int vch, .ref xki, .ref xin, .ref xpl, .ref xle, .ref xso, .ref xva, .ref xck, .ref xci, .ref xcp, .ref xcl, .ref xcs, .ref xcv]))] H := hP
    have hD : va_D A [(h, .inr (2, [.int 0, .int vtp, .int vme, .int vta, .int vpl, .int vel, .ref xpg, .ref xli, .ref xty, .ref xen, .ref xtl, .int vsg, .int vus, .int vrw, .int vur, .ref xst, .ref xmn, .ref xdr, .ref xhe, .ref xrs, .ref xrm, .ref xrd, .ref xhr, .int vwr, .int vch, .ref xki, .ref xin, .ref xpl, .ref xle, .ref xso, .ref xva, .ref xck, .ref xci, .ref xcp, .ref xcl, .ref xcs, .ref xcv]))] := hD
    refine lv_aload_n hx hb d_Md_trapped_16 rfl (lv_at hl 0 rfl) ?_
    refine va_get (D := G.1) (ci := 2) (v := .int vtp) (C := R_Md) (T := T_Md) (N := 37) hx hb hts in_Md hown hK hP 0 rfl rfl 1 (by decide) (hts _ fl_Md_105) (fun _ h9 => h9) rfl d_Md_trapped_17 ?_
    refine lv_if_le (tgt := 27) hx hb d_Md_trapped_20 (by decide) (fun c_2 => ?_) (fun c_2 => ?_)
    · replace hw := hw.1 c_2
      refine lv_iconst (v := 0) hx hb d_Md_trapped_27 (by decide) ?_
      exact W.zret (v := 0) (ty := .boolean) hx hb hr rfl (fun t ht hW => ⟨⟨0, 0, rfl, hw, by have h9 := hP; rw [← ht] at h9; exact h9⟩, hS.F ht⟩) hS.2.2 d_Md_trapped_28
    · replace hw := hw.2 c_2
      refine lv_iconst (v := 1) hx hb d_Md_trapped_23 (by decide) ?_
      refine lv_goto (tgt := 28) hx hb d_Md_trapped_24 (by decide) ?_
      exact W.zret (v := 1) (ty := .boolean) hx hb hr rfl (fun t ht hW => ⟨⟨1, 0, rfl, hw, by have h9 := hP; rw [← ht] at h9; exact h9⟩, hS.F ht⟩) hS.2.2 d_Md_trapped_28
  · replace hw := hw.2 c_1
    refine lv_iconst (v := 2) hx hb d_Md_trapped_8 (by decide) ?_
    refine lv_goto (tgt := 13) hx hb d_Md_trapped_9 (by decide) ?_
    refine va_put (D := G.1) (ci := 2) (v := .int 2) (ty := (.int)) (C := R_Md) (T := T_Md) (N := 37) hx hb hts in_Md ty_Md tk_Md nm_Md hown hK hP hD hS 0 rfl rfl 0 (by decide) (hts _ fl_Md_94) (fun _ h9 => h9) rfl (by decide +kernel) rfl rfl (Nat.le_of_ble_eq_true rfl) d_Md_trapped_13 (fun H locs hP hD hS => ?_)
    have hP : va_P G.1 vwC [(h, .inr (2, [.int 2, .int vtp, .int vme, .int vta, .int vpl, .int vel, .ref xpg, .ref xli, .ref xty, .ref xen, .ref xtl, .int vsg, .int vus, .int vrw, .int vur, .ref xst, .ref xmn, .ref xdr, .ref xhe, .ref xrs, .ref xrm, .ref xrd, .ref xhr, .int vwr, .int vch, .ref xki, .ref xin, .ref xpl, .ref xle, .ref xso, .ref xva, .ref xck, .ref xci, .ref xcp, .ref xcl, .ref xcs, .ref xcv]))] H := hP
    have hD : va_D A [(h, .inr (2, [.int 2, .int vtp, .int vme, .int vta, .int vpl, .int vel, .ref xpg, .ref xli, .ref xty, .ref xen, .ref xtl, .int vsg, .int vus, .int vrw, .int vur, .ref xst, .ref xmn, .ref xdr, .ref xhe, .ref xrs, .ref xrm, .ref xrd, .ref xhr, .int vwr, .int vch, .ref xki, .ref xin, .ref xpl, .ref xle, .ref xso, .ref xva, .ref xck, .ref xci, .ref xcp, .ref xcl, .ref xcs, .ref xcv]))] := hD
    refine lv_aload_n hx hb d_Md_trapped_16 rfl (lv_at hl 0 rfl) ?_
    refine va_get (D := G.1) (ci := 2) (v := .int vtp) (C := R_Md) (T := T_Md) (N := 37) hx hb hts in_Md hown hK hP 0 rfl rfl 1 (by decide) (hts _ fl_Md_105) (fun _ h9 => h9) rfl d_Md_trapped_17 ?_
    refine lv_if_le (tgt := 27) hx hb d_Md_trapped_20 (by decide) (fun c_3 => ?_) (fun c_3 => ?_)
    · replace hw := hw.1 c_3
      refine lv_iconst (v := 0) hx hb d_Md_trapped_27 (by decide) ?_
      exact W.zret (v := 0) (ty := .boolean) hx hb hr rfl (fun t ht hW => ⟨⟨0, 2, rfl, hw, by have h9 := hP; rw [← ht] at h9; exact h9⟩, hS.F ht⟩) hS.2.2 d_Md_trapped_28
    · replace hw := hw.2 c_3
      refine lv_iconst (v := 1) hx hb d_Md_trapped_23 (by decide) ?_
      refine lv_goto (tgt := 28) hx hb d_Md_trapped_24 (by decide) ?_
      exact W.zret (v := 1) (ty := .boolean) hx hb hr rfl (fun t ht hW => ⟨⟨1, 2, rfl, hw, by have h9 := hP; rw [← ht] at h9; exact h9⟩, hS.F ht⟩) hS.2.2 d_Md_trapped_28
theorem c_Md_trapped (l : Launch) (G : cxT) (h : Nat) (xpg : Nat) (xli : Nat) (xty : Nat) (xen : Nat) (xtl : Nat) (xst : Nat) (xmn : Nat) (xdr : Nat) (xhe : Nat) (xrs : Nat) (xrm : Nat) (xrd : Nat) (xhr : Nat) (xki : Nat) (xin : Nat) (xpl : Nat) (xle : Nat) (xso : Nat) (xva : Nat) (xck : Nat) (xci : Nat) (xcp : Nat) (xcl : Nat) (xcs : Nat) (xcv : Nat) (vth : Int32) (vtp : Int32) (vme : Int32) (vta : Int32) (vpl : Int32) (vel : Int32) (vsg : Int32) (vus : Int32) (vrw : Int32) (vur : Int32) (vwr : Int32) (vch : Int32) (sz : Nat) : Met l y_Md_trapped [.code y_Md_trapped b_Md_trapped 1 (some .boolean)] ({ frames := 0, cells := 0, slots := 0, locals := 0 } : Room) (cm G [.ref h] [(h, .inr (2, [.int vth, .int vtp, .int vme, .int vta, .int vpl, .int vel, .ref xpg, .ref xli, .ref xty, .ref xen, .ref xtl, .int vsg, .int vus, .int vrw, .int vur, .ref xst, .ref xmn, .ref xdr, .ref xhe, .ref xrs, .ref xrm, .ref xrd, .ref xhr, .int vwr, .int vch, .ref xki, .ref xin, .ref xpl, .ref xle, .ref xso, .ref xva, .ref xck, .ref xci, .ref xcp, .ref xcl, .ref xcs, .ref xcv]))] sz) (va_Qi (fun r u => r = (pos1 vtp) ∧ u = if 0 < vtp then 2 else 0) (fun u t => va_P G.1 vwC [(h, .inr (2, [.int u, .int vtp, .int vme, .int vta, .int vpl, .int vel, .ref xpg, .ref xli, .ref xty, .ref xen, .ref xtl, .int vsg, .int vus, .int vrw, .int vur, .ref xst, .ref xmn, .ref xdr, .ref xhe, .ref xrs, .ref xrm, .ref xrd, .ref xhr, .int vwr, .int vch, .ref xki, .ref xin, .ref xpl, .ref xle, .ref xso, .ref xva, .ref xck, .ref xci, .ref xcp, .ref xcl, .ref xcs, .ref xcv]))] t.heap) (va_A [(h, .inr (2, [.int vth, .int vtp, .int vme, .int vta, .int vpl, .int vel, .ref xpg, .ref xli, .ref xty, .ref xen, .ref xtl, .int vsg, .int vus, .int vrw, .int vur, .ref xst, .ref xmn, .ref xdr, .ref xhe, .ref xrs, .ref xrm, .ref xrd, .ref xhr, .int vwr, .int vch, .ref xki, .ref xin, .ref xpl, .ref xle, .ref xso, .ref xva, .ref xck, .ref xci, .ref xcp, .ref xcl, .ref xcs, .ref xcv]))] sz)) 0 0 (va_A [(h, .inr (2, [.int vth, .int vtp, .int vme, .int vta, .int vpl, .int vel, .ref xpg, .ref xli, .ref xty, .ref xen, .ref xtl, .int vsg, .int vus, .int vrw, .int vur, .ref xst, .ref xmn, .ref xdr, .ref xhe, .ref xrs, .ref xrm, .ref xrd, .ref xhr, .int vwr, .int vch, .ref xki, .ref xin, .ref xpl, .ref xle, .ref xso, .ref xva, .ref xck, .ref xci, .ref xcp, .ref xcl, .ref xcs, .ref xcv]))] sz) :=
  t_Md_trapped l G h xpg xli xty xen xtl xst xmn xdr xhe xrs xrm xrd xhr xki xin xpl xle xso xva xck xci xcp xcl xcs xcv vth vtp vme vta vpl vel vsg vus vrw vur vwr vch sz (fun r u => r = (pos1 vtp) ∧ u = if 0 < vtp then 2 else 0) (by
    unfold wp_Md_trapped pos1
    refine ⟨fun c1 => ⟨fun c2 => by simp [Int32.not_lt.mpr c1], fun c2 => absurd c1 c2⟩, fun c1 => ⟨fun c2 => absurd c2 c1, fun c2 => by simp [Int32.not_le.mp c1]⟩⟩)
def wp_Md_loads (post : Int32 → Prop) (op : Int32) : Prop := ((op = 41 → (post 8)) ∧ (¬ op = 41 → (((¬ op = 43 → (((op = 40 → (post 4)) ∧ (¬ op = 40 → (((op = 42 → (post 4)) ∧ (¬ op = 42 → (((op = 52 → (post 4)) ∧ (¬ op = 52 → (((¬ op = 53 → (((op = 46 → (post 2)) ∧ (¬ op = 46 → (((op = 47 → (post 2)) ∧ (¬ op = 47 → (((op = 50 → (post 2)) ∧ (¬ op = 50 → (((¬ op = 51 → (((op ≤ 43 → (post 0)) ∧ (¬ op ≤ 43 → (((50 ≤ op → (post 0)) ∧ (¬ 50 ≤ op → (post 1)))))))) ∧ (op = 51 → (post 2)))))))))))))) ∧ (op = 53 → (post 4)))))))))))))) ∧ (op = 43 → (post 8))))))
set_option maxHeartbeats 4000000 in
set_option maxRecDepth 100000 in
theorem t_Md_loads (l : Launch) (G : cxT) (op : Int32) (post : Int32 → Prop) (hw : wp_Md_loads post op) : Met l y_Md_loads [.code y_Md_loads b_Md_loads 1 (some .int)] ({ frames := 0, cells := 0, slots := 0, locals := 0 } : Room) (cp G [.int op] []) (va_Qi (fun r (_ : Unit) => post r) (fun _ _ => True) (fun _ => False)) 0 0 (fun _ => False) := by
  refine Met.ofW (cc := b_Md_loads) (maxL := 1) (ret := (some .int)) (by decide +kernel) rfl ?_
  intro p e s m args below meth c s₁ B hml hv
  obtain ⟨rfl, hcx, hP⟩ := hv
  have hx := B.exec
  have hb := B.bytes
  have hr := B.returns
  have hlocks := B.notSynchronized
  have hown : s.vm.findClass R_Md = some m.cls := findClass_of_methodNamed B.named
  have hS : va_S (fun _ => False) s.heap s.heap [] := va_S.rf
  have hts := hcx.now.1 [.int op].toArray
  have hK := hcx.now.2.1
  have hl := lv_entry ([.int op]) (n := 1) (Nat.le_of_ble_eq_true rfl)
  rw [lg_entry_eq]
  generalize (lg_sl ([.int op]) ++ List.replicate (1 - (lg_sl ([.int op])).length) Slot.unset).toArray = ls at hl ⊢
  have hl : lv_has ls 1 [(0, .int op)] := hl
  unfold wp_Md_loads at hw
  refine lv_iload_n hx hb d_Md_loads_0 rfl (lv_at hl 0 rfl) ?_
  refine lv_bipush (v := 41) hx hb d_Md_loads_1 (by decide) ?_
  refine lv_icmp_eq (tgt := 12) hx hb d_Md_loads_3 (by decide) (fun c_1 => ?_) (fun c_1 => ?_)
  · replace hw := hw.1 c_1
    refine lv_bipush (v := 8) hx hb d_Md_loads_12 (by decide) ?_
    refine lv_goto (tgt := 90) hx hb d_Md_loads_14 (by decide) ?_
    exact W.iret (v := 8) hx hb hr (fun t ht hW => ⟨⟨8, (), rfl, hw, trivial⟩, hS.F ht⟩) hS.2.2 d_Md_loads_90
  · replace hw := hw.2 c_1
    refine lv_iload_n hx hb d_Md_loads_6 rfl (lv_at hl 0 rfl) ?_
    refine lv_bipush (v := 43) hx hb d_Md_loads_7 (by decide) ?_
    refine lv_icmp_ne (tgt := 17) hx hb d_Md_loads_9 (by decide) (fun c_2 => ?_) (fun c_2 => ?_)
    · replace hw := hw.1 c_2
      refine lv_iload_n hx hb d_Md_loads_17 rfl (lv_at hl 0 rfl) ?_
      refine lv_bipush (v := 40) hx hb d_Md_loads_18 (by decide) ?_
      refine lv_icmp_eq (tgt := 41) hx hb d_Md_loads_20 (by decide) (fun c_3 => ?_) (fun c_3 => ?_)
      · replace hw := hw.1 c_3
        refine lv_iconst (v := 4) hx hb d_Md_loads_41 (by decide) ?_
        refine lv_goto (tgt := 90) hx hb d_Md_loads_42 (by decide) ?_
        exact W.iret (v := 4) hx hb hr (fun t ht hW => ⟨⟨4, (), rfl, hw, trivial⟩, hS.F ht⟩) hS.2.2 d_Md_loads_90
      · replace hw := hw.2 c_3
        refine lv_iload_n hx hb d_Md_loads_23 rfl (lv_at hl 0 rfl) ?_
        refine lv_bipush (v := 42) hx hb d_Md_loads_24 (by decide) ?_
        refine lv_icmp_eq (tgt := 41) hx hb d_Md_loads_26 (by decide) (fun c_4 => ?_) (fun c_4 => ?_)
        · replace hw := hw.1 c_4
          refine lv_iconst (v := 4) hx hb d_Md_loads_41 (by decide) ?_
          refine lv_goto (tgt := 90) hx hb d_Md_loads_42 (by decide) ?_
          exact W.iret (v := 4) hx hb hr (fun t ht hW => ⟨⟨4, (), rfl, hw, trivial⟩, hS.F ht⟩) hS.2.2 d_Md_loads_90
        · replace hw := hw.2 c_4
          refine lv_iload_n hx hb d_Md_loads_29 rfl (lv_at hl 0 rfl) ?_
          refine lv_bipush (v := 52) hx hb d_Md_loads_30 (by decide) ?_
          refine lv_icmp_eq (tgt := 41) hx hb d_Md_loads_32 (by decide) (fun c_5 => ?_) (fun c_5 => ?_)
          · replace hw := hw.1 c_5
            refine lv_iconst (v := 4) hx hb d_Md_loads_41 (by decide) ?_
            refine lv_goto (tgt := 90) hx hb d_Md_loads_42 (by decide) ?_
            exact W.iret (v := 4) hx hb hr (fun t ht hW => ⟨⟨4, (), rfl, hw, trivial⟩, hS.F ht⟩) hS.2.2 d_Md_loads_90
          · replace hw := hw.2 c_5
            refine lv_iload_n hx hb d_Md_loads_35 rfl (lv_at hl 0 rfl) ?_
            refine lv_bipush (v := 53) hx hb d_Md_loads_36 (by decide) ?_
            refine lv_icmp_ne (tgt := 45) hx hb d_Md_loads_38 (by decide) (fun c_6 => ?_) (fun c_6 => ?_)
            · replace hw := hw.1 c_6
              refine lv_iload_n hx hb d_Md_loads_45 rfl (lv_at hl 0 rfl) ?_
              refine lv_bipush (v := 46) hx hb d_Md_loads_46 (by decide) ?_
              refine lv_icmp_eq (tgt := 69) hx hb d_Md_loads_48 (by decide) (fun c_7 => ?_) (fun c_7 => ?_)
              · replace hw := hw.1 c_7
                refine lv_iconst (v := 2) hx hb d_Md_loads_69 (by decide) ?_
                refine lv_goto (tgt := 90) hx hb d_Md_loads_70 (by decide) ?_
                exact W.iret (v := 2) hx hb hr (fun t ht hW => ⟨⟨2, (), rfl, hw, trivial⟩, hS.F ht⟩) hS.2.2 d_Md_loads_90
              · replace hw := hw.2 c_7
                refine lv_iload_n hx hb d_Md_loads_51 rfl (lv_at hl 0 rfl) ?_
                refine lv_bipush (v := 47) hx hb d_Md_loads_52 (by decide) ?_
                refine lv_icmp_eq (tgt := 69) hx hb d_Md_loads_54 (by decide) (fun c_8 => ?_) (fun c_8 => ?_)
                · replace hw := hw.1 c_8
                  refine lv_iconst (v := 2) hx hb d_Md_loads_69 (by decide) ?_
                  refine lv_goto (tgt := 90) hx hb d_Md_loads_70 (by decide) ?_
                  exact W.iret (v := 2) hx hb hr (fun t ht hW => ⟨⟨2, (), rfl, hw, trivial⟩, hS.F ht⟩) hS.2.2 d_Md_loads_90
                · replace hw := hw.2 c_8
                  refine lv_iload_n hx hb d_Md_loads_57 rfl (lv_at hl 0 rfl) ?_
                  refine lv_bipush (v := 50) hx hb d_Md_loads_58 (by decide) ?_
                  refine lv_icmp_eq (tgt := 69) hx hb d_Md_loads_60 (by decide) (fun c_9 => ?_) (fun c_9 => ?_)
                  · replace hw := hw.1 c_9
                    refine lv_iconst (v := 2) hx hb d_Md_loads_69 (by decide) ?_
                    refine lv_goto (tgt := 90) hx hb d_Md_loads_70 (by decide) ?_
                    exact W.iret (v := 2) hx hb hr (fun t ht hW => ⟨⟨2, (), rfl, hw, trivial⟩, hS.F ht⟩) hS.2.2 d_Md_loads_90
                  · replace hw := hw.2 c_9
                    refine lv_iload_n hx hb d_Md_loads_63 rfl (lv_at hl 0 rfl) ?_
                    refine lv_bipush (v := 51) hx hb d_Md_loads_64 (by decide) ?_
                    refine lv_icmp_ne (tgt := 73) hx hb d_Md_loads_66 (by decide) (fun c_10 => ?_) (fun c_10 => ?_)
                    · replace hw := hw.1 c_10
                      refine lv_iload_n hx hb d_Md_loads_73 rfl (lv_at hl 0 rfl) ?_
                      refine lv_bipush (v := 43) hx hb d_Md_loads_74 (by decide) ?_
                      refine lv_icmp_le (tgt := 89) hx hb d_Md_loads_76 (by decide) (fun c_11 => ?_) (fun c_11 => ?_)
                      · replace hw := hw.1 c_11
                        refine lv_iconst (v := 0) hx hb d_Md_loads_89 (by decide) ?_
                        exact W.iret (v := 0) hx hb hr (fun t ht hW => ⟨⟨0, (), rfl, hw, trivial⟩, hS.F ht⟩) hS.2.2 d_Md_loads_90
                      · replace hw := hw.2 c_11
                        refine lv_iload_n hx hb d_Md_loads_79 rfl (lv_at hl 0 rfl) ?_
                        refine lv_bipush (v := 50) hx hb d_Md_loads_80 (by decide) ?_
                        refine lv_icmp_ge (tgt := 89) hx hb d_Md_loads_82 (by decide) (fun c_12 => ?_) (fun c_12 => ?_)
                        · replace hw := hw.1 c_12
                          refine lv_iconst (v := 0) hx hb d_Md_loads_89 (by decide) ?_
                          exact W.iret (v := 0) hx hb hr (fun t ht hW => ⟨⟨0, (), rfl, hw, trivial⟩, hS.F ht⟩) hS.2.2 d_Md_loads_90
                        · replace hw := hw.2 c_12
                          refine lv_iconst (v := 1) hx hb d_Md_loads_85 (by decide) ?_
                          refine lv_goto (tgt := 90) hx hb d_Md_loads_86 (by decide) ?_
                          exact W.iret (v := 1) hx hb hr (fun t ht hW => ⟨⟨1, (), rfl, hw, trivial⟩, hS.F ht⟩) hS.2.2 d_Md_loads_90
                    · replace hw := hw.2 c_10
                      refine lv_iconst (v := 2) hx hb d_Md_loads_69 (by decide) ?_
                      refine lv_goto (tgt := 90) hx hb d_Md_loads_70 (by decide) ?_
                      exact W.iret (v := 2) hx hb hr (fun t ht hW => ⟨⟨2, (), rfl, hw, trivial⟩, hS.F ht⟩) hS.2.2 d_Md_loads_90
            · replace hw := hw.2 c_6
              refine lv_iconst (v := 4) hx hb d_Md_loads_41 (by decide) ?_
              refine lv_goto (tgt := 90) hx hb d_Md_loads_42 (by decide) ?_
              exact W.iret (v := 4) hx hb hr (fun t ht hW => ⟨⟨4, (), rfl, hw, trivial⟩, hS.F ht⟩) hS.2.2 d_Md_loads_90
    · replace hw := hw.2 c_2
      refine lv_bipush (v := 8) hx hb d_Md_loads_12 (by decide) ?_
      refine lv_goto (tgt := 90) hx hb d_Md_loads_14 (by decide) ?_
      exact W.iret (v := 8) hx hb hr (fun t ht hW => ⟨⟨8, (), rfl, hw, trivial⟩, hS.F ht⟩) hS.2.2 d_Md_loads_90
def wp_Md_stores (post : Int32 → Prop) (op : Int32) : Prop := ((op = 55 → (post 8)) ∧ (¬ op = 55 → (((¬ op = 57 → (((op = 54 → (post 4)) ∧ (¬ op = 54 → (((op = 56 → (post 4)) ∧ (¬ op = 56 → (((¬ op = 62 → (((op = 59 → (post 2)) ∧ (¬ op = 59 → (((¬ op = 61 → (((op = 58 → (post 1)) ∧ (¬ op = 58 → (((¬ op = 60 → (post 0)) ∧ (op = 60 → (post 1)))))))) ∧ (op = 61 → (post 2)))))))) ∧ (op = 62 → (post 4))))))))))) ∧ (op = 57 → (post 8))))))
set_option maxHeartbeats 4000000 in
set_option maxRecDepth 100000 in
theorem t_Md_stores (l : Launch) (G : cxT) (op : Int32) (post : Int32 → Prop) (hw : wp_Md_stores post op) : Met l y_Md_stores [.code y_Md_stores b_Md_stores 1 (some .int)] ({ frames := 0, cells := 0, slots := 0, locals := 0 } : Room) (cp G [.int op] []) (va_Qi (fun r (_ : Unit) => post r) (fun _ _ => True) (fun _ => False)) 0 0 (fun _ => False) := by
  refine Met.ofW (cc := b_Md_stores) (maxL := 1) (ret := (some .int)) (by decide +kernel) rfl ?_
  intro p e s m args below meth c s₁ B hml hv
  obtain ⟨rfl, hcx, hP⟩ := hv
  have hx := B.exec
  have hb := B.bytes
  have hr := B.returns
  have hlocks := B.notSynchronized
  have hown : s.vm.findClass R_Md = some m.cls := findClass_of_methodNamed B.named
  have hS : va_S (fun _ => False) s.heap s.heap [] := va_S.rf
  have hts := hcx.now.1 [.int op].toArray
  have hK := hcx.now.2.1
  have hl := lv_entry ([.int op]) (n := 1) (Nat.le_of_ble_eq_true rfl)
  rw [lg_entry_eq]
  generalize (lg_sl ([.int op]) ++ List.replicate (1 - (lg_sl ([.int op])).length) Slot.unset).toArray = ls at hl ⊢
  have hl : lv_has ls 1 [(0, .int op)] := hl
  unfold wp_Md_stores at hw
  refine lv_iload_n hx hb d_Md_stores_0 rfl (lv_at hl 0 rfl) ?_
  refine lv_bipush (v := 55) hx hb d_Md_stores_1 (by decide) ?_
  refine lv_icmp_eq (tgt := 12) hx hb d_Md_stores_3 (by decide) (fun c_1 => ?_) (fun c_1 => ?_)
  · replace hw := hw.1 c_1
    refine lv_bipush (v := 8) hx hb d_Md_stores_12 (by decide) ?_
    refine lv_goto (tgt := 72) hx hb d_Md_stores_14 (by decide) ?_
    exact W.iret (v := 8) hx hb hr (fun t ht hW => ⟨⟨8, (), rfl, hw, trivial⟩, hS.F ht⟩) hS.2.2 d_Md_stores_72
  · replace hw := hw.2 c_1
    refine lv_iload_n hx hb d_Md_stores_6 rfl (lv_at hl 0 rfl) ?_
    refine lv_bipush (v := 57) hx hb d_Md_stores_7 (by decide) ?_
    refine lv_icmp_ne (tgt := 17) hx hb d_Md_stores_9 (by decide) (fun c_2 => ?_) (fun c_2 => ?_)
    · replace hw := hw.1 c_2
      refine lv_iload_n hx hb d_Md_stores_17 rfl (lv_at hl 0 rfl) ?_
      refine lv_bipush (v := 54) hx hb d_Md_stores_18 (by decide) ?_
      refine lv_icmp_eq (tgt := 35) hx hb d_Md_stores_20 (by decide) (fun c_3 => ?_) (fun c_3 => ?_)
      · replace hw := hw.1 c_3
        refine lv_iconst (v := 4) hx hb d_Md_stores_35 (by decide) ?_
        refine lv_goto (tgt := 72) hx hb d_Md_stores_36 (by decide) ?_
        exact W.iret (v := 4) hx hb hr (fun t ht hW => ⟨⟨4, (), rfl, hw, trivial⟩, hS.F ht⟩) hS.2.2 d_Md_stores_72
      · replace hw := hw.2 c_3
        refine lv_iload_n hx hb d_Md_stores_23 rfl (lv_at hl 0 rfl) ?_
        refine lv_bipush (v := 56) hx hb d_Md_stores_24 (by decide) ?_
        refine lv_icmp_eq (tgt := 35) hx hb d_Md_stores_26 (by decide) (fun c_4 => ?_) (fun c_4 => ?_)
        · replace hw := hw.1 c_4
          refine lv_iconst (v := 4) hx hb d_Md_stores_35 (by decide) ?_
          refine lv_goto (tgt := 72) hx hb d_Md_stores_36 (by decide) ?_
          exact W.iret (v := 4) hx hb hr (fun t ht hW => ⟨⟨4, (), rfl, hw, trivial⟩, hS.F ht⟩) hS.2.2 d_Md_stores_72
        · replace hw := hw.2 c_4
          refine lv_iload_n hx hb d_Md_stores_29 rfl (lv_at hl 0 rfl) ?_
          refine lv_bipush (v := 62) hx hb d_Md_stores_30 (by decide) ?_
          refine lv_icmp_ne (tgt := 39) hx hb d_Md_stores_32 (by decide) (fun c_5 => ?_) (fun c_5 => ?_)
          · replace hw := hw.1 c_5
            refine lv_iload_n hx hb d_Md_stores_39 rfl (lv_at hl 0 rfl) ?_
            refine lv_bipush (v := 59) hx hb d_Md_stores_40 (by decide) ?_
            refine lv_icmp_eq (tgt := 51) hx hb d_Md_stores_42 (by decide) (fun c_6 => ?_) (fun c_6 => ?_)
            · replace hw := hw.1 c_6
              refine lv_iconst (v := 2) hx hb d_Md_stores_51 (by decide) ?_
              refine lv_goto (tgt := 72) hx hb d_Md_stores_52 (by decide) ?_
              exact W.iret (v := 2) hx hb hr (fun t ht hW => ⟨⟨2, (), rfl, hw, trivial⟩, hS.F ht⟩) hS.2.2 d_Md_stores_72
            · replace hw := hw.2 c_6
              refine lv_iload_n hx hb d_Md_stores_45 rfl (lv_at hl 0 rfl) ?_
              refine lv_bipush (v := 61) hx hb d_Md_stores_46 (by decide) ?_
              refine lv_icmp_ne (tgt := 55) hx hb d_Md_stores_48 (by decide) (fun c_7 => ?_) (fun c_7 => ?_)
              · replace hw := hw.1 c_7
                refine lv_iload_n hx hb d_Md_stores_55 rfl (lv_at hl 0 rfl) ?_
                refine lv_bipush (v := 58) hx hb d_Md_stores_56 (by decide) ?_
                refine lv_icmp_eq (tgt := 67) hx hb d_Md_stores_58 (by decide) (fun c_8 => ?_) (fun c_8 => ?_)
                · replace hw := hw.1 c_8
                  refine lv_iconst (v := 1) hx hb d_Md_stores_67 (by decide) ?_
                  refine lv_goto (tgt := 72) hx hb d_Md_stores_68 (by decide) ?_
                  exact W.iret (v := 1) hx hb hr (fun t ht hW => ⟨⟨1, (), rfl, hw, trivial⟩, hS.F ht⟩) hS.2.2 d_Md_stores_72
                · replace hw := hw.2 c_8
                  refine lv_iload_n hx hb d_Md_stores_61 rfl (lv_at hl 0 rfl) ?_
                  refine lv_bipush (v := 60) hx hb d_Md_stores_62 (by decide) ?_
                  refine lv_icmp_ne (tgt := 71) hx hb d_Md_stores_64 (by decide) (fun c_9 => ?_) (fun c_9 => ?_)
                  · replace hw := hw.1 c_9
                    refine lv_iconst (v := 0) hx hb d_Md_stores_71 (by decide) ?_
                    exact W.iret (v := 0) hx hb hr (fun t ht hW => ⟨⟨0, (), rfl, hw, trivial⟩, hS.F ht⟩) hS.2.2 d_Md_stores_72
                  · replace hw := hw.2 c_9
                    refine lv_iconst (v := 1) hx hb d_Md_stores_67 (by decide) ?_
                    refine lv_goto (tgt := 72) hx hb d_Md_stores_68 (by decide) ?_
                    exact W.iret (v := 1) hx hb hr (fun t ht hW => ⟨⟨1, (), rfl, hw, trivial⟩, hS.F ht⟩) hS.2.2 d_Md_stores_72
              · replace hw := hw.2 c_7
                refine lv_iconst (v := 2) hx hb d_Md_stores_51 (by decide) ?_
                refine lv_goto (tgt := 72) hx hb d_Md_stores_52 (by decide) ?_
                exact W.iret (v := 2) hx hb hr (fun t ht hW => ⟨⟨2, (), rfl, hw, trivial⟩, hS.F ht⟩) hS.2.2 d_Md_stores_72
          · replace hw := hw.2 c_5
            refine lv_iconst (v := 4) hx hb d_Md_stores_35 (by decide) ?_
            refine lv_goto (tgt := 72) hx hb d_Md_stores_36 (by decide) ?_
            exact W.iret (v := 4) hx hb hr (fun t ht hW => ⟨⟨4, (), rfl, hw, trivial⟩, hS.F ht⟩) hS.2.2 d_Md_stores_72
    · replace hw := hw.2 c_2
      refine lv_bipush (v := 8) hx hb d_Md_stores_12 (by decide) ?_
      refine lv_goto (tgt := 72) hx hb d_Md_stores_14 (by decide) ?_
      exact W.iret (v := 8) hx hb hr (fun t ht hW => ⟨⟨8, (), rfl, hw, trivial⟩, hS.F ht⟩) hS.2.2 d_Md_stores_72
def wp_Md_write (post : ((Nat → Int32) × (Nat → Int32) × (Nat → Int32) × (Nat → Int32) × (Nat → Int32) × (Nat → Int64) × Int32) → Prop) (vth : Int32) (vtp : Int32) (vme : Int32) (vta : Int32) (vpl : Int32) (vel : Int32) (vsg : Int32) (vus : Int32) (vrw : Int32) (vur : Int32) (vwr : Int32) (vch : Int32) (gki : Nat → Int32) (gin : Nat → Int32) (gpl : Nat → Int32) (gle : Nat → Int32) (gso : Nat → Int32) (gva : Nat → Int64) (hw9 : Int32) (mm : Int32) (to : Int64) (cn : Int64) (fr : Int32) (vl : Int64) : Prop := ((¬ lg_cmp cn 0 = 0 → ((vp_in vwr 520) ∧ ∀ a_3 : Nat → Int32, a_3 = upd gki vwr.toNatClampNeg hw9 → ((vp_in vwr 520) ∧ ∀ a_5 : Nat → Int32, a_5 = upd gin vwr.toNatClampNeg mm → ((vp_in vwr 520) ∧ ∀ a_7 : Nat → Int32, a_7 = upd gpl vwr.toNatClampNeg to.toInt32 → ((vp_in vwr 520) ∧ ∀ a_9 : Nat → Int32, a_9 = upd gle vwr.toNatClampNeg cn.toInt32 → ((vp_in vwr 520) ∧ ∀ a_11 : Nat → Int32, a_11 = upd gso vwr.toNatClampNeg fr → ((vp_in vwr 520) ∧ ∀ a_13 : Nat → Int64, a_13 = vp_updL gva vwr.toNatClampNeg vl → (∀ x_14 : Int32, x_14 = vwr + 1 → (post (a_3, a_5, a_7, a_9, a_11, a_13, x_14)))))))))) ∧ (lg_cmp cn 0 = 0 → (post (gki, gin, gpl, gle, gso, gva, vwr))))
set_option maxHeartbeats 4000000 in
set_option maxRecDepth 100000 in
theorem t_Md_write (l : Launch) (G : cxT) (h : Nat) (xpg : Nat) (xli : Nat) (xty : Nat) (xen : Nat) (xtl : Nat) (xst : Nat) (xmn : Nat) (xdr : Nat) (xhe : Nat) (xrs : Nat) (xrm : Nat) (xrd : Nat) (xhr : Nat) (xki : Nat) (xin : Nat) (xpl : Nat) (xle : Nat) (xso : Nat) (xva : Nat) (xck : Nat) (xci : Nat) (xcp : Nat) (xcl : Nat) (xcs : Nat) (xcv : Nat) (vth : Int32) (vtp : Int32) (vme : Int32) (vta : Int32) (vpl : Int32) (vel : Int32) (vsg : Int32) (vus : Int32) (vrw : Int32) (vur : Int32) (vwr : Int32) (vch : Int32) (gki : Nat → Int32) (gin : Nat → Int32) (gpl : Nat → Int32) (gle : Nat → Int32) (gso : Nat → Int32) (gva : Nat → Int64) (hw9 : Int32) (mm : Int32) (to : Int64) (cn : Int64) (fr : Int32) (vl : Int64) (sz : Nat) (post : ((Nat → Int32) × (Nat → Int32) × (Nat → Int32) × (Nat → Int32) × (Nat → Int32) × (Nat → Int64) × Int32) → Prop) (hw : wp_Md_write post vth vtp vme vta vpl vel vsg vus vrw vur vwr vch gki gin gpl gle gso gva hw9 mm to cn fr vl) : Met l y_Md_write [.code y_Md_write b_Md_write 10 none] ({ frames := 0, cells := 0, slots := 0, locals := 0 } : Room) (cm G [.ref h, .int hw9, .int mm, .long to, .long cn, .int fr, .long vl] [(h, .inr (2, [.int vth, .int vtp, .int vme, .int vta, .int vpl, .int vel, .ref xpg, .ref xli, .ref xty, .ref xen, .ref xtl, .int vsg, .int vus, .int vrw, .int vur, .ref xst, .ref xmn, .ref xdr, .ref xhe, .ref xrs, .ref xrm, .ref xrd, .ref xhr, .int vwr, .int vch, .ref xki, .ref xin, .ref xpl, .ref xle, .ref xso, .ref xva, .ref xck, .ref xci, .ref xcp, .ref xcl, .ref xcs, .ref xcv])), (xki, .inl (G.2.1 0, 520, .inl gki)), (xin, .inl (G.2.1 0, 520, .inl gin)), (xpl, .inl (G.2.1 0, 520, .inl gpl)), (xle, .inl (G.2.1 0, 520, .inl gle)), (xso, .inl (G.2.1 0, 520, .inl gso)), (xva, .inl (G.2.1 3, 520, .inr (.inl gva)))] sz) (va_Qv post (fun u t => va_P G.1 vwC [(h, .inr (2, [.int vth, .int vtp, .int vme, .int vta, .int vpl, .int vel, .ref xpg, .ref xli, .ref xty, .ref xen, .ref xtl, .int vsg, .int vus, .int vrw, .int vur, .ref xst, .ref xmn, .ref xdr, .ref xhe, .ref xrs, .ref xrm, .ref xrd, .ref xhr, .int u.2.2.2.2.2.2, .int vch, .ref xki, .ref xin, .ref xpl, .ref xle, .ref xso, .ref xva, .ref xck, .ref xci, .ref xcp, .ref xcl, .ref xcs, .ref xcv])), (xki, .inl (G.2.1 0, 520, .inl u.1)), (xin, .inl (G.2.1 0, 520, .inl u.2.1)), (xpl, .inl (G.2.1 0, 520, .inl u.2.2.1)), (xle, .inl (G.2.1 0, 520, .inl u.2.2.2.1)), (xso, .inl (G.2.1 0, 520, .inl u.2.2.2.2.1)), (xva, .inl (G.2.1 3, 520, .inr (.inl u.2.2.2.2.2.1)))] t.heap) (va_A [(h, .inr (2, [.int vth, .int vtp, .int vme, .int vta, .int vpl, .int vel, .ref xpg, .ref xli, .ref xty, .ref xen, .ref xtl, .int vsg, .int vus, .int vrw, .int vur, .ref xst, .ref xmn, .ref xdr, .ref xhe, .ref xrs, .ref xrm, .ref xrd, .ref xhr, .int vwr, .int vch, .ref xki, .ref xin, .ref xpl, .ref xle, .ref xso, .ref xva, .ref xck, .ref xci, .ref xcp, .ref xcl, .ref xcs, .ref xcv])), (xki, .inl (G.2.1 0, 520, .inl gki)), (xin, .inl (G.2.1 0, 520, .inl gin)), (xpl, .inl (G.2.1 0, 520, .inl gpl)), (xle, .inl (G.2.1 0, 520, .inl gle)), (xso, .inl (G.2.1 0, 520, .inl gso)), (xva, .inl (G.2.1 3, 520, .inr (.inl gva)))] sz)) 0 0 (va_A [(h, .inr (2, [.int vth, .int vtp, .int vme, .int vta, .int vpl, .int vel, .ref xpg, .ref xli, .ref xty, .ref xen, .ref xtl, .int vsg, .int vus, .int vrw, .int vur, .ref xst, .ref xmn, .ref xdr, .ref xhe, .ref xrs, .ref xrm, .ref xrd, .ref xhr, .int vwr, .int vch, .ref xki, .ref xin, .ref xpl, .ref xle, .ref xso, .ref xva, .ref xck, .ref xci, .ref xcp, .ref xcl, .ref xcs, .ref xcv])), (xki, .inl (G.2.1 0, 520, .inl gki)), (xin, .inl (G.2.1 0, 520, .inl gin)), (xpl, .inl (G.2.1 0, 520, .inl gpl)), (xle, .inl (G.2.1 0, 520, .inl gle)), (xso, .inl (G.2.1 0, 520, .inl gso)), (xva, .inl (G.2.1 3, 520, .inr (.inl gva)))] sz) := by
  refine Met.ofW (cc := b_Md_write) (maxL := 10) (ret := none) (by decide +kernel) rfl ?_
  intro p e s m args below meth c s₁ B hml hv
  obtain ⟨rfl, hsz, hcx, hP, hD0⟩ := hv
  have hx := B.exec
  have hb := B.bytes
  have hr := B.returns
  have hlocks := B.notSynchronized
  have hown : s.vm.findClass R_Md = some m.cls := findClass_of_methodNamed B.named
  subst hsz
  have hD := hD0.self (sz := s.heap.size)
  generalize hAe : va_A [(h, .inr (2, [.int vth, .int vtp, .int vme, .int vta, .int vpl, .int vel, .ref xpg, .ref xli, .ref xty, .ref xen, .ref xtl, .int vsg, .int vus, .int vrw, .int vur, .ref xst, .ref xmn, .ref xdr, .ref xhe, .ref xrs, .ref xrm, .ref xrd, .ref xhr, .int vwr, .int vch, .ref xki, .ref xin, .ref xpl, .ref xle, .ref xso, .ref xva, .ref xck, .ref xci, .ref xcp, .ref xcl, .ref xcs, .ref xcv])), (xki, .inl (G.2.1 0, 520, .inl gki)), (xin, .inl (G.2.1 0, 520, .inl gin)), (xpl, .inl (G.2.1 0, 520, .inl gpl)), (xle, .inl (G.2.1 0, 520, .inl gle)), (xso, .inl (G.2.1 0, 520, .inl gso)), (xva, .inl (G.2.1 3, 520, .inr (.inl gva)))] s.heap.size = A at hD hcx ⊢
  have hA : ∀ q : Nat, s.heap.size ≤ q → A q := fun q h => by rw [← hAe]; exact Or.inr h
  have hS : va_S A s.heap s.heap [] := va_S.rf
  have hts := hcx.now.1 [.ref h, .int hw9, .int mm, .long to, .long cn, .int fr, .long vl].toArray
  have hK := hcx.now.2.1
  have hl := lv_entry ([.ref h, .int hw9, .int mm, .long to, .long cn, .int fr, .long vl]) (n := 10) (Nat.le_of_ble_eq_true rfl)
  rw [lg_entry_eq]
  generalize (lg_sl ([.ref h, .int hw9, .int mm, .long to, .long cn, .int fr, .long vl]) ++ List.replicate (10 - (lg_sl ([.ref h, .int hw9, .int mm, .long to, .long cn, .int fr, .long vl])).length) Slot.unset).toArray = ls at hl ⊢
  have hl : lv_has ls 10 [(0, .ref h), (1, .int hw9), (2, .int mm), (3, .long to), (5, .long cn), (7, .int fr), (8, .long vl)] := hl
  unfold wp_Md_write at hw
  refine lv_lload hx hb d_Md_write_0 (lv_at hl 4 rfl) ?_
  refine lv_lconst (v := 0) hx hb d_Md_write_2 (by decide) ?_
  refine W.lcmp hx hb d_Md_write_3 ?_
  refine lv_if_ne (tgt := 8) hx hb d_Md_write_4 (by decide) (fun c_1 => ?_) (fun c_1 => ?_)
  · replace hw := hw.1 c_1
    refine lv_aload_n hx hb d_Md_write_8 rfl (lv_at hl 0 rfl) ?_
    refine va_get (D := G.1) (ci := 2) (v := .ref xki) (C := R_Md) (T := T_Md) (N := 37) hx hb hts in_Md hown hK hP 0 rfl rfl 25 (by decide) (hts _ fl_Md_57) (fun _ h9 => h9) rfl d_Md_write_9 ?_
    refine lv_aload_n hx hb d_Md_write_12 rfl (lv_at hl 0 rfl) ?_
    refine va_get (D := G.1) (ci := 2) (v := .int vwr) (C := R_Md) (T := T_Md) (N := 37) hx hb hts in_Md hown hK hP 0 rfl rfl 23 (by decide) (hts _ fl_Md_110) (fun _ h9 => h9) rfl d_Md_write_13 ?_
    refine lv_iload_n hx hb d_Md_write_16 rfl (lv_at hl 1 rfl) ?_
    obtain ⟨h_2, hw⟩ := hw
    obtain ⟨a_3, ea_3⟩ : ∃ z, z = upd gki vwr.toNatClampNeg hw9 := ⟨_, rfl⟩
    replace hw := hw a_3 ea_3
    refine va_iast hx hb hK hP hD hS 1 0 rfl rfl h_2 d_Md_write_17 (fun H locs hP hD hS => ?_)
    rw [← ea_3] at hP hD
    have hP : va_P G.1 vwC [(h, .inr (2, [.int vth, .int vtp, .int vme, .int vta, .int vpl, .int vel, .ref xpg, .ref xli, .ref xty, .ref xen, .ref xtl, .int vsg, .int vus, .int vrw, .int vur, .ref xst, .ref xmn, .ref xdr, .ref xhe, .ref xrs, .ref xrm, .ref xrd, .ref xhr, .int vwr, .int vch, .ref xki, .ref xin, .ref xpl, .ref xle, .ref xso, .ref xva, .ref xck, .ref xci, .ref xcp, .ref xcl, .ref xcs, .ref xcv])), (xki, .inl (G.2.1 0, 520, .inl a_3)), (xin, .inl (G.2.1 0, 520, .inl gin)), (xpl, .inl (G.2.1 0, 520, .inl gpl)), (xle, .inl (G.2.1 0, 520, .inl gle)), (xso, .inl (G.2.1 0, 520, .inl gso)), (xva, .inl (G.2.1 3, 520, .inr (.inl gva)))] H := hP
    have hD : va_D A [(h, .inr (2, [.int vth, .int vtp, .int vme, .int vta, .int vpl, .int vel, .ref xpg, .ref xli, .ref xty, .ref xen, .ref xtl, .int vsg, .int vus, .int vrw, .int vur, .ref xst, .ref xmn, .ref xdr, .ref xhe, .ref xrs, .ref xrm, .ref xrd, .ref xhr, .int vwr, .int vch, .ref xki, .ref xin, .ref xpl, .ref xle, .ref xso, .ref xva, .ref xck, .ref xci, .ref xcp, .ref xcl, .ref xcs, .ref xcv])), (xki, .inl (G.2.1 0, 520, .inl a_3)), (xin, .inl (G.2.1 0, 520, .inl gin)), (xpl, .inl (G.2.1 0, 520, .inl gpl)), (xle, .inl (G.2.1 0, 520, .inl gle)), (xso, .inl (G.2.1 0, 520, .inl gso)), (xva, .inl (G.2.1 3, 520, .inr (.inl gva)))] := hD
    refine lv_aload_n hx hb d_Md_write_18 rfl (lv_at hl 0 rfl) ?_
    refine va_get (D := G.1) (ci := 2) (v := .ref xin) (C := R_Md) (T := T_Md) (N := 37) hx hb hts in_Md hown hK hP 0 rfl rfl 26 (by decide) (hts _ fl_Md_60) (fun _ h9 => h9) rfl d_Md_write_19 ?_
    refine lv_aload_n hx hb d_Md_write_22 rfl (lv_at hl 0 rfl) ?_
    refine va_get (D := G.1) (ci := 2) (v := .int vwr) (C := R_Md) (T := T_Md) (N := 37) hx hb hts in_Md hown hK hP 0 rfl rfl 23 (by decide) (hts _ fl_Md_110) (fun _ h9 => h9) rfl d_Md_write_23 ?_
    refine lv_iload_n hx hb d_Md_write_26 rfl (lv_at hl 2 rfl) ?_
    obtain ⟨h_4, hw⟩ := hw
    obtain ⟨a_5, ea_5⟩ : ∃ z, z = upd gin vwr.toNatClampNeg mm := ⟨_, rfl⟩
    replace hw := hw a_5 ea_5
    refine va_iast hx hb hK hP hD hS 2 0 rfl rfl h_4 d_Md_write_27 (fun H locs hP hD hS => ?_)
    rw [← ea_5] at hP hD
    have hP : va_P G.1 vwC [(h, .inr (2, [.int vth, .int vtp, .int vme, .int vta, .int vpl, .int vel, .ref xpg, .ref xli, .ref xty, .ref xen, .ref xtl, .int vsg, .int vus, .int vrw, .int vur, .ref xst, .ref xmn, .ref xdr, .ref xhe, .ref xrs, .ref xrm, .ref xrd, .ref xhr, .int vwr, .int vch, .ref xki, .ref xin, .ref xpl, .ref xle, .ref xso, .ref xva, .ref xck, .ref xci, .ref xcp, .ref xcl, .ref xcs, .ref xcv])), (xki, .inl (G.2.1 0, 520, .inl a_3)), (xin, .inl (G.2.1 0, 520, .inl a_5)), (xpl, .inl (G.2.1 0, 520, .inl gpl)), (xle, .inl (G.2.1 0, 520, .inl gle)), (xso, .inl (G.2.1 0, 520, .inl gso)), (xva, .inl (G.2.1 3, 520, .inr (.inl gva)))] H := hP
    have hD : va_D A [(h, .inr (2, [.int vth, .int vtp, .int vme, .int vta, .int vpl, .int vel, .ref xpg, .ref xli, .ref xty, .ref xen, .ref xtl, .int vsg, .int vus, .int vrw, .int vur, .ref xst, .ref xmn, .ref xdr, .ref xhe, .ref xrs, .ref xrm, .ref xrd, .ref xhr, .int vwr, .int vch, .ref xki, .ref xin, .ref xpl, .ref xle, .ref xso, .ref xva, .ref xck, .ref xci, .ref xcp, .ref xcl, .ref xcs, .ref xcv])), (xki, .inl (G.2.1 0, 520, .inl a_3)), (xin, .inl (G.2.1 0, 520, .inl a_5)), (xpl, .inl (G.2.1 0, 520, .inl gpl)), (xle, .inl (G.2.1 0, 520, .inl gle)), (xso, .inl (G.2.1 0, 520, .inl gso)), (xva, .inl (G.2.1 3, 520, .inr (.inl gva)))] := hD
    refine lv_aload_n hx hb d_Md_write_28 rfl (lv_at hl 0 rfl) ?_
    refine va_get (D := G.1) (ci := 2) (v := .ref xpl) (C := R_Md) (T := T_Md) (N := 37) hx hb hts in_Md hown hK hP 0 rfl rfl 27 (by decide) (hts _ fl_Md_63) (fun _ h9 => h9) rfl d_Md_write_29 ?_
    refine lv_aload_n hx hb d_Md_write_32 rfl (lv_at hl 0 rfl) ?_
    refine va_get (D := G.1) (ci := 2) (v := .int vwr) (C := R_Md) (T := T_Md) (N := 37) hx hb hts in_Md hown hK hP 0 rfl rfl 23 (by decide) (hts _ fl_Md_110) (fun _ h9 => h9) rfl d_Md_write_33 ?_
    refine lv_lload_n hx hb d_Md_write_36 rfl (lv_at hl 3 rfl) ?_
    refine lv_l2i (v := to.toInt32) hx hb d_Md_write_37 rfl ?_
    obtain ⟨h_6, hw⟩ := hw
    obtain ⟨a_7, ea_7⟩ : ∃ z, z = upd gpl vwr.toNatClampNeg to.toInt32 := ⟨_, rfl⟩
    replace hw := hw a_7 ea_7
    refine va_iast hx hb hK hP hD hS 3 0 rfl rfl h_6 d_Md_write_38 (fun H locs hP hD hS => ?_)
    rw [← ea_7] at hP hD
    have hP : va_P G.1 vwC [(h, .inr (2, [.int vth, .int vtp, .int vme, .int vta, .int vpl, .int vel, .ref xpg, .ref xli, .ref xty, .ref xen, .ref xtl, .int vsg, .int vus, .int vrw, .int vur, .ref xst, .ref xmn, .ref xdr, .ref xhe, .ref xrs, .ref xrm, .ref xrd, .ref xhr, .int vwr, .int vch, .ref xki, .ref xin, .ref xpl, .ref xle, .ref xso, .ref xva, .ref xck, .ref xci, .ref xcp, .ref xcl, .ref xcs, .ref xcv])), (xki, .inl (G.2.1 0, 520, .inl a_3)), (xin, .inl (G.2.1 0, 520, .inl a_5)), (xpl, .inl (G.2.1 0, 520, .inl a_7)), (xle, .inl (G.2.1 0, 520, .inl gle)), (xso, .inl (G.2.1 0, 520, .inl gso)), (xva, .inl (G.2.1 3, 520, .inr (.inl gva)))] H := hP
    have hD : va_D A [(h, .inr (2, [.int vth, .int vtp, .int vme, .int vta, .int vpl, .int vel, .ref xpg, .ref xli, .ref xty, .ref xen, .ref xtl, .int vsg, .int vus, .int vrw, .int vur, .ref xst, .ref xmn, .ref xdr, .ref xhe, .ref xrs, .ref xrm, .ref xrd, .ref xhr, .int vwr, .int vch, .ref xki, .ref xin, .ref xpl, .ref xle, .ref xso, .ref xva, .ref xck, .ref xci, .ref xcp, .ref xcl, .ref xcs, .ref xcv])), (xki, .inl (G.2.1 0, 520, .inl a_3)), (xin, .inl (G.2.1 0, 520, .inl a_5)), (xpl, .inl (G.2.1 0, 520, .inl a_7)), (xle, .inl (G.2.1 0, 520, .inl gle)), (xso, .inl (G.2.1 0, 520, .inl gso)), (xva, .inl (G.2.1 3, 520, .inr (.inl gva)))] := hD
    refine lv_aload_n hx hb d_Md_write_39 rfl (lv_at hl 0 rfl) ?_
    refine va_get (D := G.1) (ci := 2) (v := .ref xle) (C := R_Md) (T := T_Md) (N := 37) hx hb hts in_Md hown hK hP 0 rfl rfl 28 (by decide) (hts _ fl_Md_66) (fun _ h9 => h9) rfl d_Md_write_40 ?_
    refine lv_aload_n hx hb d_Md_write_43 rfl (lv_at hl 0 rfl) ?_
    refine va_get (D := G.1) (ci := 2) (v := .int vwr) (C := R_Md) (T := T_Md) (N := 37) hx hb hts in_Md hown hK hP 0 rfl rfl 23 (by decide) (hts _ fl_Md_110) (fun _ h9 => h9) rfl d_Md_write_44 ?_
    refine lv_lload hx hb d_Md_write_47 (lv_at hl 4 rfl) ?_
    refine lv_l2i (v := cn.toInt32) hx hb d_Md_write_49 rfl ?_
    obtain ⟨h_8, hw⟩ := hw
    obtain ⟨a_9, ea_9⟩ : ∃ z, z = upd gle vwr.toNatClampNeg cn.toInt32 := ⟨_, rfl⟩
    replace hw := hw a_9 ea_9
    refine va_iast hx hb hK hP hD hS 4 0 rfl rfl h_8 d_Md_write_50 (fun H locs hP hD hS => ?_)
    rw [← ea_9] at hP hD
    have hP : va_P G.1 vwC [(h, .inr (2, [.int vth, .int vtp, .int vme, .int vta, .int vpl, .int vel, .ref xpg, .ref xli, .ref xty, .ref xen, .ref xtl, .int vsg, .int vus, .int vrw, .int vur, .ref xst, .ref xmn, .ref xdr, .ref xhe, .ref xrs, .ref xrm, .ref xrd, .ref xhr, .int vwr, .int vch, .ref xki, .ref xin, .ref xpl, .ref xle, .ref xso, .ref xva, .ref xck, .ref xci, .ref xcp, .ref xcl, .ref xcs, .ref xcv])), (xki, .inl (G.2.1 0, 520, .inl a_3)), (xin, .inl (G.2.1 0, 520, .inl a_5)), (xpl, .inl (G.2.1 0, 520, .inl a_7)), (xle, .inl (G.2.1 0, 520, .inl a_9)), (xso, .inl (G.2.1 0, 520, .inl gso)), (xva, .inl (G.2.1 3, 520, .inr (.inl gva)))] H := hP
    have hD : va_D A [(h, .inr (2, [.int vth, .int vtp, .int vme, .int vta, .int vpl, .int vel, .ref xpg, .ref xli, .ref xty, .ref xen, .ref xtl, .int vsg, .int vus, .int vrw, .int vur, .ref xst, .ref xmn, .ref xdr, .ref xhe, .ref xrs, .ref xrm, .ref xrd, .ref xhr, .int vwr, .int vch, .ref xki, .ref xin, .ref xpl, .ref xle, .ref xso, .ref xva, .ref xck, .ref xci, .ref xcp, .ref xcl, .ref xcs, .ref xcv])), (xki, .inl (G.2.1 0, 520, .inl a_3)), (xin, .inl (G.2.1 0, 520, .inl a_5)), (xpl, .inl (G.2.1 0, 520, .inl a_7)), (xle, .inl (G.2.1 0, 520, .inl a_9)), (xso, .inl (G.2.1 0, 520, .inl gso)), (xva, .inl (G.2.1 3, 520, .inr (.inl gva)))] := hD
    refine lv_aload_n hx hb d_Md_write_51 rfl (lv_at hl 0 rfl) ?_
    refine va_get (D := G.1) (ci := 2) (v := .ref xso) (C := R_Md) (T := T_Md) (N := 37) hx hb hts in_Md hown hK hP 0 rfl rfl 29 (by decide) (hts _ fl_Md_69) (fun _ h9 => h9) rfl d_Md_write_52 ?_
    refine lv_aload_n hx hb d_Md_write_55 rfl (lv_at hl 0 rfl) ?_
    refine va_get (D := G.1) (ci := 2) (v := .int vwr) (C := R_Md) (T := T_Md) (N := 37) hx hb hts in_Md hown hK hP 0 rfl rfl 23 (by decide) (hts _ fl_Md_110) (fun _ h9 => h9) rfl d_Md_write_56 ?_
    refine lv_iload hx hb d_Md_write_59 (lv_at hl 5 rfl) ?_
    obtain ⟨h_10, hw⟩ := hw
    obtain ⟨a_11, ea_11⟩ : ∃ z, z = upd gso vwr.toNatClampNeg fr := ⟨_, rfl⟩
    replace hw := hw a_11 ea_11
    refine va_iast hx hb hK hP hD hS 5 0 rfl rfl h_10 d_Md_write_61 (fun H locs hP hD hS => ?_)
    rw [← ea_11] at hP hD
    have hP : va_P G.1 vwC [(h, .inr (2, [.int vth, .int vtp, .int vme, .int vta, .int vpl, .int vel, .ref xpg, .ref xli, .ref xty, .ref xen, .ref xtl, .int vsg, .int vus, .int vrw, .int vur, .ref xst, .ref xmn, .ref xdr, .ref xhe, .ref xrs, .ref xrm, .ref xrd, .ref xhr, .int vwr, .int vch, .ref xki, .ref xin, .ref xpl, .ref xle, .ref xso, .ref xva, .ref xck, .ref xci, .ref xcp, .ref xcl, .ref xcs, .ref xcv])), (xki, .inl (G.2.1 0, 520, .inl a_3)), (xin, .inl (G.2.1 0, 520, .inl a_5)), (xpl, .inl (G.2.1 0, 520, .inl a_7)), (xle, .inl (G.2.1 0, 520, .inl a_9)), (xso, .inl (G.2.1 0, 520, .inl a_11)), (xva, .inl (G.2.1 3, 520, .inr (.inl gva)))] H := hP
    have hD : va_D A [(h, .inr (2, [.int vth, .int vtp, .int vme, .int vta, .int vpl, .int vel, .ref xpg, .ref xli, .ref xty, .ref xen, .ref xtl, .int vsg, .int vus, .int vrw, .int vur, .ref xst, .ref xmn, .ref xdr, .ref xhe, .ref xrs, .ref xrm, .ref xrd, .ref xhr, .int vwr, .int vch, .ref xki, .ref xin, .ref xpl, .ref xle, .ref xso, .ref xva, .ref xck, .ref xci, .ref xcp, .ref xcl, .ref xcs, .ref xcv])), (xki, .inl (G.2.1 0, 520, .inl a_3)), (xin, .inl (G.2.1 0, 520, .inl a_5)), (xpl, .inl (G.2.1 0, 520, .inl a_7)), (xle, .inl (G.2.1 0, 520, .inl a_9)), (xso, .inl (G.2.1 0, 520, .inl a_11)), (xva, .inl (G.2.1 3, 520, .inr (.inl gva)))] := hD
    refine lv_aload_n hx hb d_Md_write_62 rfl (lv_at hl 0 rfl) ?_
    refine va_get (D := G.1) (ci := 2) (v := .ref xva) (C := R_Md) (T := T_Md) (N := 37) hx hb hts in_Md hown hK hP 0 rfl rfl 30 (by decide) (hts _ fl_Md_72) (fun _ h9 => h9) rfl d_Md_write_63 ?_
    refine lv_aload_n hx hb d_Md_write_66 rfl (lv_at hl 0 rfl) ?_
    refine va_get (D := G.1) (ci := 2) (v := .int vwr) (C := R_Md) (T := T_Md) (N := 37) hx hb hts in_Md hown hK hP 0 rfl rfl 23 (by decide) (hts _ fl_Md_110) (fun _ h9 => h9) rfl d_Md_write_67 ?_
    refine lv_lload hx hb d_Md_write_70 (lv_at hl 6 rfl) ?_
    obtain ⟨h_12, hw⟩ := hw
    obtain ⟨a_13, ea_13⟩ : ∃ z, z = vp_updL gva vwr.toNatClampNeg vl := ⟨_, rfl⟩
    replace hw := hw a_13 ea_13
    refine va_last hx hb hK hP hD hS 6 3 rfl rfl h_12 d_Md_write_72 (fun H locs hP hD hS => ?_)
    rw [← ea_13] at hP hD
    have hP : va_P G.1 vwC [(h, .inr (2, [.int vth, .int vtp, .int vme, .int vta, .int vpl, .int vel, .ref xpg, .ref xli, .ref xty, .ref xen, .ref xtl, .int vsg, .int vus, .int vrw, .int vur, .ref xst, .ref xmn, .ref xdr, .ref xhe, .ref xrs, .ref xrm, .ref xrd, .ref xhr, .int vwr, .int vch, .ref xki, .ref xin, .ref xpl, .ref xle, .ref xso, .ref xva, .ref xck, .ref xci, .ref xcp, .ref xcl, .ref xcs, .ref xcv])), (xki, .inl (G.2.1 0, 520, .inl a_3)), (xin, .inl (G.2.1 0, 520, .inl a_5)), (xpl, .inl (G.2.1 0, 520, .inl a_7)), (xle, .inl (G.2.1 0, 520, .inl a_9)), (xso, .inl (G.2.1 0, 520, .inl a_11)), (xva, .inl (G.2.1 3, 520, .inr (.inl a_13)))] H := hP
    have hD : va_D A [(h, .inr (2, [.int vth, .int vtp, .int vme, .int vta, .int vpl, .int vel, .ref xpg, .ref xli, .ref xty, .ref xen, .ref xtl, .int vsg, .int vus, .int vrw, .int vur, .ref xst, .ref xmn, .ref xdr, .ref xhe, .ref xrs, .ref xrm, .ref xrd, .ref xhr, .int vwr, .int vch, .ref xki, .ref xin, .ref xpl, .ref xle, .ref xso, .ref xva, .ref xck, .ref xci, .ref xcp, .ref xcl, .ref xcs, .ref xcv])), (xki, .inl (G.2.1 0, 520, .inl a_3)), (xin, .inl (G.2.1 0, 520, .inl a_5)), (xpl, .inl (G.2.1 0, 520, .inl a_7)), (xle, .inl (G.2.1 0, 520, .inl a_9)), (xso, .inl (G.2.1 0, 520, .inl a_11)), (xva, .inl (G.2.1 3, 520, .inr (.inl a_13)))] := hD
    refine lv_aload_n hx hb d_Md_write_73 rfl (lv_at hl 0 rfl) ?_
    refine lv_dup hx hb d_Md_write_74 rfl ?_
    refine va_get (D := G.1) (ci := 2) (v := .int vwr) (C := R_Md) (T := T_Md) (N := 37) hx hb hts in_Md hown hK hP 0 rfl rfl 23 (by decide) (hts _ fl_Md_110) (fun _ h9 => h9) rfl d_Md_write_75 ?_
    refine lv_iconst (v := 1) hx hb d_Md_write_78 (by decide) ?_
    refine lv_iadd hx hb d_Md_write_79 ?_
    refine lv_topi (fun x_14 ex_14 => ?_)
    replace hw := hw x_14 ex_14
    refine va_put (D := G.1) (ci := 2) (v := .int x_14) (ty := (.int)) (C := R_Md) (T := T_Md) (N := 37) hx hb hts in_Md ty_Md tk_Md nm_Md hown hK hP hD hS 0 rfl rfl 23 (by decide) (hts _ fl_Md_110) (fun _ h9 => h9) rfl (by decide +kernel) rfl rfl (Nat.le_of_ble_eq_true rfl) d_Md_write_80 (fun H locs hP hD hS => ?_)
    have hP : va_P G.1 vwC [(h, .inr (2, [.int vth, .int vtp, .int vme, .int vta, .int vpl, .int vel, .ref xpg, .ref xli, .ref xty, .ref xen, .ref xtl, .int vsg, .int vus, .int vrw, .int vur, .ref xst, .ref xmn, .ref xdr, .ref xhe, .ref xrs, .ref xrm, .ref xrd, .ref xhr, .int x_14, .int vch, .ref xki, .ref xin, .ref xpl, .ref xle, .ref xso, .ref xva, .ref xck, .ref xci, .ref xcp, .ref xcl, .ref xcs, .ref xcv])), (xki, .inl (G.2.1 0, 520, .inl a_3)), (xin, .inl (G.2.1 0, 520, .inl a_5)), (xpl, .inl (G.2.1 0, 520, .inl a_7)), (xle, .inl (G.2.1 0, 520, .inl a_9)), (xso, .inl (G.2.1 0, 520, .inl a_11)), (xva, .inl (G.2.1 3, 520, .inr (.inl a_13)))] H := hP
    have hD : va_D A [(h, .inr (2, [.int vth, .int vtp, .int vme, .int vta, .int vpl, .int vel, .ref xpg, .ref xli, .ref xty, .ref xen, .ref xtl, .int vsg, .int vus, .int vrw, .int vur, .ref xst, .ref xmn, .ref xdr, .ref xhe, .ref xrs, .ref xrm, .ref xrd, .ref xhr, .int x_14, .int vch, .ref xki, .ref xin, .ref xpl, .ref xle, .ref xso, .ref xva, .ref xck, .ref xci, .ref xcp, .ref xcl, .ref xcs, .ref xcv])), (xki, .inl (G.2.1 0, 520, .inl a_3)), (xin, .inl (G.2.1 0, 520, .inl a_5)), (xpl, .inl (G.2.1 0, 520, .inl a_7)), (xle, .inl (G.2.1 0, 520, .inl a_9)), (xso, .inl (G.2.1 0, 520, .inl a_11)), (xva, .inl (G.2.1 3, 520, .inr (.inl a_13)))] := hD
    exact W.vret hx hb hr (fun t ht hW => ⟨⟨(a_3, a_5, a_7, a_9, a_11, a_13, x_14), rfl, hw, by have h9 := hP; rw [← ht] at h9; exact h9⟩, hS.F ht⟩) hS.2.2 d_Md_write_83
  · replace hw := hw.2 c_1
    exact W.vret hx hb hr (fun t ht hW => ⟨⟨(gki, gin, gpl, gle, gso, gva, vwr), rfl, hw, by have h9 := hP; rw [← ht] at h9; exact h9⟩, hS.F ht⟩) hS.2.2 d_Md_write_7
def wp_Md_change (post : ((Nat → Int32) × (Nat → Int32) × (Nat → Int32) × (Nat → Int32) × (Nat → Int32) × (Nat → Int32) × Int32) → Prop) (vth : Int32) (vtp : Int32) (vme : Int32) (vta : Int32) (vpl : Int32) (vel : Int32) (vsg : Int32) (vus : Int32) (vrw : Int32) (vur : Int32) (vwr : Int32) (vch : Int32) (gck : Nat → Int32) (gci : Nat → Int32) (gcp : Nat → Int32) (gcl : Nat → Int32) (gcs : Nat → Int32) (gcv : Nat → Int32) (hw9 : Int32) (mm : Int32) (to : Int64) (cn : Int64) (fr : Int32) (vl : Int32) : Prop := ((¬ lg_cmp cn 0 = 0 → ((vp_in vch 520) ∧ ∀ a_3 : Nat → Int32, a_3 = upd gck vch.toNatClampNeg hw9 → ((vp_in vch 520) ∧ ∀ a_5 : Nat → Int32, a_5 = upd gci vch.toNatClampNeg mm → ((vp_in vch 520) ∧ ∀ a_7 : Nat → Int32, a_7 = upd gcp vch.toNatClampNeg to.toInt32 → ((vp_in vch 520) ∧ ∀ a_9 : Nat → Int32, a_9 = upd gcl vch.toNatClampNeg cn.toInt32 → ((vp_in vch 520) ∧ ∀ a_11 : Nat → Int32, a_11 = upd gcs vch.toNatClampNeg fr → ((vp_in vch 520) ∧ ∀ a_13 : Nat → Int32, a_13 = upd gcv vch.toNatClampNeg vl → (∀ x_14 : Int32, x_14 = vch + 1 → (post (a_3, a_5, a_7, a_9, a_11, a_13, x_14)))))))))) ∧ (lg_cmp cn 0 = 0 → (post (gck, gci, gcp, gcl, gcs, gcv, vch))))
set_option maxHeartbeats 4000000 in
set_option maxRecDepth 100000 in
theorem t_Md_change (l : Launch) (G : cxT) (h : Nat) (xpg : Nat) (xli : Nat) (xty : Nat) (xen : Nat) (xtl : Nat) (xst : Nat) (xmn : Nat) (xdr : Nat) (xhe : Nat) (xrs : Nat) (xrm : Nat) (xrd : Nat) (xhr : Nat) (xki : Nat) (xin : Nat) (xpl : Nat) (xle : Nat) (xso : Nat) (xva : Nat) (xck : Nat) (xci : Nat) (xcp : Nat) (xcl : Nat) (xcs : Nat) (xcv : Nat) (vth : Int32) (vtp : Int32) (vme : Int32) (vta : Int32) (vpl : Int32) (vel : Int32) (vsg : Int32) (vus : Int32) (vrw : Int32) (vur : Int32) (vwr : Int32) (vch : Int32) (gck : Nat → Int32) (gci : Nat → Int32) (gcp : Nat → Int32) (gcl : Nat → Int32) (gcs : Nat → Int32) (gcv : Nat → Int32) (hw9 : Int32) (mm : Int32) (to : Int64) (cn : Int64) (fr : Int32) (vl : Int32) (sz : Nat) (post : ((Nat → Int32) × (Nat → Int32) × (Nat → Int32) × (Nat → Int32) × (Nat → Int32) × (Nat → Int32) × Int32) → Prop) (hw : wp_Md_change post vth vtp vme vta vpl vel vsg vus vrw vur vwr vch gck gci gcp gcl gcs gcv hw9 mm to cn fr vl) : Met l y_Md_change [.code y_Md_change b_Md_change 9 none] ({ frames := 0, cells := 0, slots := 0, locals := 0 } : Room) (cm G [.ref h, .int hw9, .int mm, .long to, .long cn, .int fr, .int vl] [(h, .inr (2, [.int vth, .int vtp, .int vme, .int vta, .int vpl, .int vel, .ref xpg, .ref xli, .ref xty, .ref xen, .ref xtl, .int vsg, .int vus, .int vrw, .int vur, .ref xst, .ref xmn, .ref xdr, .ref xhe, .ref xrs, .ref xrm, .ref xrd, .ref xhr, .int vwr, .int vch, .ref xki, .ref xin, .ref xpl, .ref xle, .ref xso, .ref xva, .ref xck, .ref xci, .ref xcp, .ref xcl, .ref xcs, .ref xcv])), (xck, .inl (G.2.1 0, 520, .inl gck)), (xci, .inl (G.2.1 0, 520, .inl gci)), (xcp, .inl (G.2.1 0, 520, .inl gcp)), (xcl, .inl (G.2.1 0, 520, .inl gcl)), (xcs, .inl (G.2.1 0, 520, .inl gcs)), (xcv, .inl (G.2.1 0, 520, .inl gcv))] sz) (va_Qv post (fun u t => va_P G.1 vwC [(h, .inr (2, [.int vth, .int vtp, .int vme, .int vta, .int vpl, .int vel, .ref xpg, .ref xli, .ref xty, .ref xen, .ref xtl, .int vsg, .int vus, .int vrw, .int vur, .ref xst, .ref xmn, .ref xdr, .ref xhe, .ref xrs, .ref xrm, .ref xrd, .ref xhr, .int vwr, .int u.2.2.2.2.2.2, .ref xki, .ref xin, .ref xpl, .ref xle, .ref xso, .ref xva, .ref xck, .ref xci, .ref xcp, .ref xcl, .ref xcs, .ref xcv])), (xck, .inl (G.2.1 0, 520, .inl u.1)), (xci, .inl (G.2.1 0, 520, .inl u.2.1)), (xcp, .inl (G.2.1 0, 520, .inl u.2.2.1)), (xcl, .inl (G.2.1 0, 520, .inl u.2.2.2.1)), (xcs, .inl (G.2.1 0, 520, .inl u.2.2.2.2.1)), (xcv, .inl (G.2.1 0, 520, .inl u.2.2.2.2.2.1))] t.heap) (va_A [(h, .inr (2, [.int vth, .int vtp, .int vme, .int vta, .int vpl, .int vel, .ref xpg, .ref xli, .ref xty, .ref xen, .ref xtl, .int vsg, .int vus, .int vrw, .int vur, .ref xst, .ref xmn, .ref xdr, .ref xhe, .ref xrs, .ref xrm, .ref xrd, .ref xhr, .int vwr, .int vch, .ref xki, .ref xin, .ref xpl, .ref xle, .ref xso, .ref xva, .ref xck, .ref xci, .ref xcp, .ref xcl, .ref xcs, .ref xcv])), (xck, .inl (G.2.1 0, 520, .inl gck)), (xci, .inl (G.2.1 0, 520, .inl gci)), (xcp, .inl (G.2.1 0, 520, .inl gcp)), (xcl, .inl (G.2.1 0, 520, .inl gcl)), (xcs, .inl (G.2.1 0, 520, .inl gcs)), (xcv, .inl (G.2.1 0, 520, .inl gcv))] sz)) 0 0 (va_A [(h, .inr (2, [.int vth, .int vtp, .int vme, .int vta, .int vpl, .int vel, .ref xpg, .ref xli, .ref xty, .ref xen, .ref xtl, .int vsg, .int vus, .int vrw, .int vur, .ref xst, .ref xmn, .ref xdr, .ref xhe, .ref xrs, .ref xrm, .ref xrd, .ref xhr, .int vwr, .int vch, .ref xki, .ref xin, .ref xpl, .ref xle, .ref xso, .ref xva, .ref xck, .ref xci, .ref xcp, .ref xcl, .ref xcs, .ref xcv])), (xck, .inl (G.2.1 0, 520, .inl gck)), (xci, .inl (G.2.1 0, 520, .inl gci)), (xcp, .inl (G.2.1 0, 520, .inl gcp)), (xcl, .inl (G.2.1 0, 520, .inl gcl)), (xcs, .inl (G.2.1 0, 520, .inl gcs)), (xcv, .inl (G.2.1 0, 520, .inl gcv))] sz) := by
  refine Met.ofW (cc := b_Md_change) (maxL := 9) (ret := none) (by decide +kernel) rfl ?_
  intro p e s m args below meth c s₁ B hml hv
  obtain ⟨rfl, hsz, hcx, hP, hD0⟩ := hv
  have hx := B.exec
  have hb := B.bytes
  have hr := B.returns
  have hlocks := B.notSynchronized
  have hown : s.vm.findClass R_Md = some m.cls := findClass_of_methodNamed B.named
  subst hsz
  have hD := hD0.self (sz := s.heap.size)
  generalize hAe : va_A [(h, .inr (2, [.int vth, .int vtp, .int vme, .int vta, .int vpl, .int vel, .ref xpg, .ref xli, .ref xty, .ref xen, .ref xtl, .int vsg, .int vus, .int vrw, .int vur, .ref xst, .ref xmn, .ref xdr, .ref xhe, .ref xrs, .ref xrm, .ref xrd, .ref xhr, .int vwr, .int vch, .ref xki, .ref xin, .ref xpl, .ref xle, .ref xso, .ref xva, .ref xck, .ref xci, .ref xcp, .ref xcl, .ref xcs, .ref xcv])), (xck, .inl (G.2.1 0, 520, .inl gck)), (xci, .inl (G.2.1 0, 520, .inl gci)), (xcp, .inl (G.2.1 0, 520, .inl gcp)), (xcl, .inl (G.2.1 0, 520, .inl gcl)), (xcs, .inl (G.2.1 0, 520, .inl gcs)), (xcv, .inl (G.2.1 0, 520, .inl gcv))] s.heap.size = A at hD hcx ⊢
  have hA : ∀ q : Nat, s.heap.size ≤ q → A q := fun q h => by rw [← hAe]; exact Or.inr h
  have hS : va_S A s.heap s.heap [] := va_S.rf
  have hts := hcx.now.1 [.ref h, .int hw9, .int mm, .long to, .long cn, .int fr, .int vl].toArray
  have hK := hcx.now.2.1
  have hl := lv_entry ([.ref h, .int hw9, .int mm, .long to, .long cn, .int fr, .int vl]) (n := 9) (Nat.le_of_ble_eq_true rfl)
  rw [lg_entry_eq]
  generalize (lg_sl ([.ref h, .int hw9, .int mm, .long to, .long cn, .int fr, .int vl]) ++ List.replicate (9 - (lg_sl ([.ref h, .int hw9, .int mm, .long to, .long cn, .int fr, .int vl])).length) Slot.unset).toArray = ls at hl ⊢
  have hl : lv_has ls 9 [(0, .ref h), (1, .int hw9), (2, .int mm), (3, .long to), (5, .long cn), (7, .int fr), (8, .int vl)] := hl
  unfold wp_Md_change at hw
  refine lv_lload hx hb d_Md_change_0 (lv_at hl 4 rfl) ?_
  refine lv_lconst (v := 0) hx hb d_Md_change_2 (by decide) ?_
  refine W.lcmp hx hb d_Md_change_3 ?_
  refine lv_if_ne (tgt := 8) hx hb d_Md_change_4 (by decide) (fun c_1 => ?_) (fun c_1 => ?_)
  · replace hw := hw.1 c_1
    refine lv_aload_n hx hb d_Md_change_8 rfl (lv_at hl 0 rfl) ?_
    refine va_get (D := G.1) (ci := 2) (v := .ref xck) (C := R_Md) (T := T_Md) (N := 37) hx hb hts in_Md hown hK hP 0 rfl rfl 31 (by decide) (hts _ fl_Md_76) (fun _ h9 => h9) rfl d_Md_change_9 ?_
    refine lv_aload_n hx hb d_Md_change_12 rfl (lv_at hl 0 rfl) ?_
    refine va_get (D := G.1) (ci := 2) (v := .int vch) (C := R_Md) (T := T_Md) (N := 37) hx hb hts in_Md hown hK hP 0 rfl rfl 24 (by decide) (hts _ fl_Md_113) (fun _ h9 => h9) rfl d_Md_change_13 ?_
    refine lv_iload_n hx hb d_Md_change_16 rfl (lv_at hl 1 rfl) ?_
    obtain ⟨h_2, hw⟩ := hw
    obtain ⟨a_3, ea_3⟩ : ∃ z, z = upd gck vch.toNatClampNeg hw9 := ⟨_, rfl⟩
    replace hw := hw a_3 ea_3
    refine va_iast hx hb hK hP hD hS 1 0 rfl rfl h_2 d_Md_change_17 (fun H locs hP hD hS => ?_)
    rw [← ea_3] at hP hD
    have hP : va_P G.1 vwC [(h, .inr (2, [.int vth, .int vtp, .int vme, .int vta, .int vpl, .int vel, .ref xpg, .ref xli, .ref xty, .ref xen, .ref xtl, .int vsg, .int vus, .int vrw, .int vur, .ref xst, .ref xmn, .ref xdr, .ref xhe, .ref xrs, .ref xrm, .ref xrd, .ref xhr, .int vwr, .int vch, .ref xki, .ref xin, .ref xpl, .ref xle, .ref xso, .ref xva, .ref xck, .ref xci, .ref xcp, .ref xcl, .ref xcs, .ref xcv])), (xck, .inl (G.2.1 0, 520, .inl a_3)), (xci, .inl (G.2.1 0, 520, .inl gci)), (xcp, .inl (G.2.1 0, 520, .inl gcp)), (xcl, .inl (G.2.1 0, 520, .inl gcl)), (xcs, .inl (G.2.1 0, 520, .inl gcs)), (xcv, .inl (G.2.1 0, 520, .inl gcv))] H := hP
    have hD : va_D A [(h, .inr (2, [.int vth, .int vtp, .int vme, .int vta, .int vpl, .int vel, .ref xpg, .ref xli, .ref xty, .ref xen, .ref xtl, .int vsg, .int vus, .int vrw, .int vur, .ref xst, .ref xmn, .ref xdr, .ref xhe, .ref xrs, .ref xrm, .ref xrd, .ref xhr, .int vwr, .int vch, .ref xki, .ref xin, .ref xpl, .ref xle, .ref xso, .ref xva, .ref xck, .ref xci, .ref xcp, .ref xcl, .ref xcs, .ref xcv])), (xck, .inl (G.2.1 0, 520, .inl a_3)), (xci, .inl (G.2.1 0, 520, .inl gci)), (xcp, .inl (G.2.1 0, 520, .inl gcp)), (xcl, .inl (G.2.1 0, 520, .inl gcl)), (xcs, .inl (G.2.1 0, 520, .inl gcs)), (xcv, .inl (G.2.1 0, 520, .inl gcv))] := hD
    refine lv_aload_n hx hb d_Md_change_18 rfl (lv_at hl 0 rfl) ?_
    refine va_get (D := G.1) (ci := 2) (v := .ref xci) (C := R_Md) (T := T_Md) (N := 37) hx hb hts in_Md hown hK hP 0 rfl rfl 32 (by decide) (hts _ fl_Md_79) (fun _ h9 => h9) rfl d_Md_change_19 ?_
    refine lv_aload_n hx hb d_Md_change_22 rfl (lv_at hl 0 rfl) ?_
    refine va_get (D := G.1) (ci := 2) (v := .int vch) (C := R_Md) (T := T_Md) (N := 37) hx hb hts in_Md hown hK hP 0 rfl rfl 24 (by decide) (hts _ fl_Md_113) (fun _ h9 => h9) rfl d_Md_change_23 ?_
    refine lv_iload_n hx hb d_Md_change_26 rfl (lv_at hl 2 rfl) ?_
    obtain ⟨h_4, hw⟩ := hw
    obtain ⟨a_5, ea_5⟩ : ∃ z, z = upd gci vch.toNatClampNeg mm := ⟨_, rfl⟩
    replace hw := hw a_5 ea_5
    refine va_iast hx hb hK hP hD hS 2 0 rfl rfl h_4 d_Md_change_27 (fun H locs hP hD hS => ?_)
    rw [← ea_5] at hP hD
    have hP : va_P G.1 vwC [(h, .inr (2, [.int vth, .int vtp, .int vme, .int vta, .int vpl, .int vel, .ref xpg, .ref xli, .ref xty, .ref xen, .ref xtl, .int vsg, .int vus, .int vrw, .int vur, .ref xst, .ref xmn, .ref xdr, .ref xhe, .ref xrs, .ref xrm, .ref xrd, .ref xhr, .int vwr, .int vch, .ref xki, .ref xin, .ref xpl, .ref xle, .ref xso, .ref xva, .ref xck, .ref xci, .ref xcp, .ref xcl, .ref xcs, .ref xcv])), (xck, .inl (G.2.1 0, 520, .inl a_3)), (xci, .inl (G.2.1 0, 520, .inl a_5)), (xcp, .inl (G.2.1 0, 520, .inl gcp)), (xcl, .inl (G.2.1 0, 520, .inl gcl)), (xcs, .inl (G.2.1 0, 520, .inl gcs)), (xcv, .inl (G.2.1 0, 520, .inl gcv))] H := hP
    have hD : va_D A [(h, .inr (2, [.int vth, .int vtp, .int vme, .int vta, .int vpl, .int vel, .ref xpg, .ref xli, .ref xty, .ref xen, .ref xtl, .int vsg, .int vus, .int vrw, .int vur, .ref xst, .ref xmn, .ref xdr, .ref xhe, .ref xrs, .ref xrm, .ref xrd, .ref xhr, .int vwr, .int vch, .ref xki, .ref xin, .ref xpl, .ref xle, .ref xso, .ref xva, .ref xck, .ref xci, .ref xcp, .ref xcl, .ref xcs, .ref xcv])), (xck, .inl (G.2.1 0, 520, .inl a_3)), (xci, .inl (G.2.1 0, 520, .inl a_5)), (xcp, .inl (G.2.1 0, 520, .inl gcp)), (xcl, .inl (G.2.1 0, 520, .inl gcl)), (xcs, .inl (G.2.1 0, 520, .inl gcs)), (xcv, .inl (G.2.1 0, 520, .inl gcv))] := hD
    refine lv_aload_n hx hb d_Md_change_28 rfl (lv_at hl 0 rfl) ?_
    refine va_get (D := G.1) (ci := 2) (v := .ref xcp) (C := R_Md) (T := T_Md) (N := 37) hx hb hts in_Md hown hK hP 0 rfl rfl 33 (by decide) (hts _ fl_Md_82) (fun _ h9 => h9) rfl d_Md_change_29 ?_
    refine lv_aload_n hx hb d_Md_change_32 rfl (lv_at hl 0 rfl) ?_
    refine va_get (D := G.1) (ci := 2) (v := .int vch) (C := R_Md) (T := T_Md) (N := 37) hx hb hts in_Md hown hK hP 0 rfl rfl 24 (by decide) (hts _ fl_Md_113) (fun _ h9 => h9) rfl d_Md_change_33 ?_
    refine lv_lload_n hx hb d_Md_change_36 rfl (lv_at hl 3 rfl) ?_
    refine lv_l2i (v := to.toInt32) hx hb d_Md_change_37 rfl ?_
    obtain ⟨h_6, hw⟩ := hw
    obtain ⟨a_7, ea_7⟩ : ∃ z, z = upd gcp vch.toNatClampNeg to.toInt32 := ⟨_, rfl⟩
    replace hw := hw a_7 ea_7
    refine va_iast hx hb hK hP hD hS 3 0 rfl rfl h_6 d_Md_change_38 (fun H locs hP hD hS => ?_)
    rw [← ea_7] at hP hD
    have hP : va_P G.1 vwC [(h, .inr (2, [.int vth, .int vtp, .int vme, .int vta, .int vpl, .int vel, .ref xpg, .ref xli, .ref xty, .ref xen, .ref xtl, .int vsg, .int vus, .int vrw, .int vur, .ref xst, .ref xmn, .ref xdr, .ref xhe, .ref xrs, .ref xrm, .ref xrd, .ref xhr, .int vwr, .int vch, .ref xki, .ref xin, .ref xpl, .ref xle, .ref xso, .ref xva, .ref xck, .ref xci, .ref xcp, .ref xcl, .ref xcs, .ref xcv])), (xck, .inl (G.2.1 0, 520, .inl a_3)), (xci, .inl (G.2.1 0, 520, .inl a_5)), (xcp, .inl (G.2.1 0, 520, .inl a_7)), (xcl, .inl (G.2.1 0, 520, .inl gcl)), (xcs, .inl (G.2.1 0, 520, .inl gcs)), (xcv, .inl (G.2.1 0, 520, .inl gcv))] H := hP
    have hD : va_D A [(h, .inr (2, [.int vth, .int vtp, .int vme, .int vta, .int vpl, .int vel, .ref xpg, .ref xli, .ref xty, .ref xen, .ref xtl, .int vsg, .int vus, .int vrw, .int vur, .ref xst, .ref xmn, .ref xdr, .ref xhe, .ref xrs, .ref xrm, .ref xrd, .ref xhr, .int vwr, .int vch, .ref xki, .ref xin, .ref xpl, .ref xle, .ref xso, .ref xva, .ref xck, .ref xci, .ref xcp, .ref xcl, .ref xcs, .ref xcv])), (xck, .inl (G.2.1 0, 520, .inl a_3)), (xci, .inl (G.2.1 0, 520, .inl a_5)), (xcp, .inl (G.2.1 0, 520, .inl a_7)), (xcl, .inl (G.2.1 0, 520, .inl gcl)), (xcs, .inl (G.2.1 0, 520, .inl gcs)), (xcv, .inl (G.2.1 0, 520, .inl gcv))] := hD
    refine lv_aload_n hx hb d_Md_change_39 rfl (lv_at hl 0 rfl) ?_
    refine va_get (D := G.1) (ci := 2) (v := .ref xcl) (C := R_Md) (T := T_Md) (N := 37) hx hb hts in_Md hown hK hP 0 rfl rfl 34 (by decide) (hts _ fl_Md_85) (fun _ h9 => h9) rfl d_Md_change_40 ?_
    refine lv_aload_n hx hb d_Md_change_43 rfl (lv_at hl 0 rfl) ?_
    refine va_get (D := G.1) (ci := 2) (v := .int vch) (C := R_Md) (T := T_Md) (N := 37) hx hb hts in_Md hown hK hP 0 rfl rfl 24 (by decide) (hts _ fl_Md_113) (fun _ h9 => h9) rfl d_Md_change_44 ?_
    refine lv_lload hx hb d_Md_change_47 (lv_at hl 4 rfl) ?_
    refine lv_l2i (v := cn.toInt32) hx hb d_Md_change_49 rfl ?_
    obtain ⟨h_8, hw⟩ := hw
    obtain ⟨a_9, ea_9⟩ : ∃ z, z = upd gcl vch.toNatClampNeg cn.toInt32 := ⟨_, rfl⟩
    replace hw := hw a_9 ea_9
    refine va_iast hx hb hK hP hD hS 4 0 rfl rfl h_8 d_Md_change_50 (fun H locs hP hD hS => ?_)
    rw [← ea_9] at hP hD
    have hP : va_P G.1 vwC [(h, .inr (2, [.int vth, .int vtp, .int vme, .int vta, .int vpl, .int vel, .ref xpg, .ref xli, .ref xty, .ref xen, .ref xtl, .int vsg, .int vus, .int vrw, .int vur, .ref xst, .ref xmn, .ref xdr, .ref xhe, .ref xrs, .ref xrm, .ref xrd, .ref xhr, .int vwr, .int vch, .ref xki, .ref xin, .ref xpl, .ref xle, .ref xso, .ref xva, .ref xck, .ref xci, .ref xcp, .ref xcl, .ref xcs, .ref xcv])), (xck, .inl (G.2.1 0, 520, .inl a_3)), (xci, .inl (G.2.1 0, 520, .inl a_5)), (xcp, .inl (G.2.1 0, 520, .inl a_7)), (xcl, .inl (G.2.1 0, 520, .inl a_9)), (xcs, .inl (G.2.1 0, 520, .inl gcs)), (xcv, .inl (G.2.1 0, 520, .inl gcv))] H := hP
    have hD : va_D A [(h, .inr (2, [.int vth, .int vtp, .int vme, .int vta, .int vpl, .int vel, .ref xpg, .ref xli, .ref xty, .ref xen, .ref xtl, .int vsg, .int vus, .int vrw, .int vur, .ref xst, .ref xmn, .ref xdr, .ref xhe, .ref xrs, .ref xrm, .ref xrd, .ref xhr, .int vwr, .int vch, .ref xki, .ref xin, .ref xpl, .ref xle, .ref xso, .ref xva, .ref xck, .ref xci, .ref xcp, .ref xcl, .ref xcs, .ref xcv])), (xck, .inl (G.2.1 0, 520, .inl a_3)), (xci, .inl (G.2.1 0, 520, .inl a_5)), (xcp, .inl (G.2.1 0, 520, .inl a_7)), (xcl, .inl (G.2.1 0, 520, .inl a_9)), (xcs, .inl (G.2.1 0, 520, .inl gcs)), (xcv, .inl (G.2.1 0, 520, .inl gcv))] := hD
    refine lv_aload_n hx hb d_Md_change_51 rfl (lv_at hl 0 rfl) ?_
    refine va_get (D := G.1) (ci := 2) (v := .ref xcs) (C := R_Md) (T := T_Md) (N := 37) hx hb hts in_Md hown hK hP 0 rfl rfl 35 (by decide) (hts _ fl_Md_88) (fun _ h9 => h9) rfl d_Md_change_52 ?_
    refine lv_aload_n hx hb d_Md_change_55 rfl (lv_at hl 0 rfl) ?_
    refine va_get (D := G.1) (ci := 2) (v := .int vch) (C := R_Md) (T := T_Md) (N := 37) hx hb hts in_Md hown hK hP 0 rfl rfl 24 (by decide) (hts _ fl_Md_113) (fun _ h9 => h9) rfl d_Md_change_56 ?_
    refine lv_iload hx hb d_Md_change_59 (lv_at hl 5 rfl) ?_
    obtain ⟨h_10, hw⟩ := hw
    obtain ⟨a_11, ea_11⟩ : ∃ z, z = upd gcs vch.toNatClampNeg fr := ⟨_, rfl⟩
    replace hw := hw a_11 ea_11
    refine va_iast hx hb hK hP hD hS 5 0 rfl rfl h_10 d_Md_change_61 (fun H locs hP hD hS => ?_)
    rw [← ea_11] at hP hD
    have hP : va_P G.1 vwC [(h, .inr (2, [.int vth, .int vtp, .int vme, .int vta, .int vpl, .int vel, .ref xpg, .ref xli, .ref xty, .ref xen, .ref xtl, .int vsg, .int vus, .int vrw, .int vur, .ref xst, .ref xmn, .ref xdr, .ref xhe, .ref xrs, .ref xrm, .ref xrd, .ref xhr, .int vwr, .int vch, .ref xki, .ref xin, .ref xpl, .ref xle, .ref xso, .ref xva, .ref xck, .ref xci, .ref xcp, .ref xcl, .ref xcs, .ref xcv])), (xck, .inl (G.2.1 0, 520, .inl a_3)), (xci, .inl (G.2.1 0, 520, .inl a_5)), (xcp, .inl (G.2.1 0, 520, .inl a_7)), (xcl, .inl (G.2.1 0, 520, .inl a_9)), (xcs, .inl (G.2.1 0, 520, .inl a_11)), (xcv, .inl (G.2.1 0, 520, .inl gcv))] H := hP
    have hD : va_D A [(h, .inr (2, [.int vth, .int vtp, .int vme, .int vta, .int vpl, .int vel, .ref xpg, .ref xli, .ref xty, .ref xen, .ref xtl, .int vsg, .int vus, .int vrw, .int vur, .ref xst, .ref xmn, .ref xdr, .ref xhe, .ref xrs, .ref xrm, .ref xrd, .ref xhr, .int vwr, .int vch, .ref xki, .ref xin, .ref xpl, .ref xle, .ref xso, .ref xva, .ref xck, .ref xci, .ref xcp, .ref xcl, .ref xcs, .ref xcv])), (xck, .inl (G.2.1 0, 520, .inl a_3)), (xci, .inl (G.2.1 0, 520, .inl a_5)), (xcp, .inl (G.2.1 0, 520, .inl a_7)), (xcl, .inl (G.2.1 0, 520, .inl a_9)), (xcs, .inl (G.2.1 0, 520, .inl a_11)), (xcv, .inl (G.2.1 0, 520, .inl gcv))] := hD
    refine lv_aload_n hx hb d_Md_change_62 rfl (lv_at hl 0 rfl) ?_
    refine va_get (D := G.1) (ci := 2) (v := .ref xcv) (C := R_Md) (T := T_Md) (N := 37) hx hb hts in_Md hown hK hP 0 rfl rfl 36 (by decide) (hts _ fl_Md_91) (fun _ h9 => h9) rfl d_Md_change_63 ?_
    refine lv_aload_n hx hb d_Md_change_66 rfl (lv_at hl 0 rfl) ?_
    refine va_get (D := G.1) (ci := 2) (v := .int vch) (C := R_Md) (T := T_Md) (N := 37) hx hb hts in_Md hown hK hP 0 rfl rfl 24 (by decide) (hts _ fl_Md_113) (fun _ h9 => h9) rfl d_Md_change_67 ?_
    refine lv_iload hx hb d_Md_change_70 (lv_at hl 6 rfl) ?_
    obtain ⟨h_12, hw⟩ := hw
    obtain ⟨a_13, ea_13⟩ : ∃ z, z = upd gcv vch.toNatClampNeg vl := ⟨_, rfl⟩
    replace hw := hw a_13 ea_13
    refine va_iast hx hb hK hP hD hS 6 0 rfl rfl h_12 d_Md_change_72 (fun H locs hP hD hS => ?_)
    rw [← ea_13] at hP hD
    have hP : va_P G.1 vwC [(h, .inr (2, [.int vth, .int vtp, .int vme, .int vta, .int vpl, .int vel, .ref xpg, .ref xli, .ref xty, .ref xen, .ref xtl, .int vsg, .int vus, .int vrw, .int vur, .ref xst, .ref xmn, .ref xdr, .ref xhe, .ref xrs, .ref xrm, .ref xrd, .ref xhr, .int vwr, .int vch, .ref xki, .ref xin, .ref xpl, .ref xle, .ref xso, .ref xva, .ref xck, .ref xci, .ref xcp, .ref xcl, .ref xcs, .ref xcv])), (xck, .inl (G.2.1 0, 520, .inl a_3)), (xci, .inl (G.2.1 0, 520, .inl a_5)), (xcp, .inl (G.2.1 0, 520, .inl a_7)), (xcl, .inl (G.2.1 0, 520, .inl a_9)), (xcs, .inl (G.2.1 0, 520, .inl a_11)), (xcv, .inl (G.2.1 0, 520, .inl a_13))] H := hP
    have hD : va_D A [(h, .inr (2, [.int vth, .int vtp, .int vme, .int vta, .int vpl, .int vel, .ref xpg, .ref xli, .ref xty, .ref xen, .ref xtl, .int vsg, .int vus, .int vrw, .int vur, .ref xst, .ref xmn, .ref xdr, .ref xhe, .ref xrs, .ref xrm, .ref xrd, .ref xhr, .int vwr, .int vch, .ref xki, .ref xin, .ref xpl, .ref xle, .ref xso, .ref xva, .ref xck, .ref xci, .ref xcp, .ref xcl, .ref xcs, .ref xcv])), (xck, .inl (G.2.1 0, 520, .inl a_3)), (xci, .inl (G.2.1 0, 520, .inl a_5)), (xcp, .inl (G.2.1 0, 520, .inl a_7)), (xcl, .inl (G.2.1 0, 520, .inl a_9)), (xcs, .inl (G.2.1 0, 520, .inl a_11)), (xcv, .inl (G.2.1 0, 520, .inl a_13))] := hD
    refine lv_aload_n hx hb d_Md_change_73 rfl (lv_at hl 0 rfl) ?_
    refine lv_dup hx hb d_Md_change_74 rfl ?_
    refine va_get (D := G.1) (ci := 2) (v := .int vch) (C := R_Md) (T := T_Md) (N := 37) hx hb hts in_Md hown hK hP 0 rfl rfl 24 (by decide) (hts _ fl_Md_113) (fun _ h9 => h9) rfl d_Md_change_75 ?_
    refine lv_iconst (v := 1) hx hb d_Md_change_78 (by decide) ?_
    refine lv_iadd hx hb d_Md_change_79 ?_
    refine lv_topi (fun x_14 ex_14 => ?_)
    replace hw := hw x_14 ex_14
    refine va_put (D := G.1) (ci := 2) (v := .int x_14) (ty := (.int)) (C := R_Md) (T := T_Md) (N := 37) hx hb hts in_Md ty_Md tk_Md nm_Md hown hK hP hD hS 0 rfl rfl 24 (by decide) (hts _ fl_Md_113) (fun _ h9 => h9) rfl (by decide +kernel) rfl rfl (Nat.le_of_ble_eq_true rfl) d_Md_change_80 (fun H locs hP hD hS => ?_)
    have hP : va_P G.1 vwC [(h, .inr (2, [.int vth, .int vtp, .int vme, .int vta, .int vpl, .int vel, .ref xpg, .ref xli, .ref xty, .ref xen, .ref xtl, .int vsg, .int vus, .int vrw, .int vur, .ref xst, .ref xmn, .ref xdr, .ref xhe, .ref xrs, .ref xrm, .ref xrd, .ref xhr, .int vwr, .int x_14, .ref xki, .ref xin, .ref xpl, .ref xle, .ref xso, .ref xva, .ref xck, .ref xci, .ref xcp, .ref xcl, .ref xcs, .ref xcv])), (xck, .inl (G.2.1 0, 520, .inl a_3)), (xci, .inl (G.2.1 0, 520, .inl a_5)), (xcp, .inl (G.2.1 0, 520, .inl a_7)), (xcl, .inl (G.2.1 0, 520, .inl a_9)), (xcs, .inl (G.2.1 0, 520, .inl a_11)), (xcv, .inl (G.2.1 0, 520, .inl a_13))] H := hP
    have hD : va_D A [(h, .inr (2, [.int vth, .int vtp, .int vme, .int vta, .int vpl, .int vel, .ref xpg, .ref xli, .ref xty, .ref xen, .ref xtl, .int vsg, .int vus, .int vrw, .int vur, .ref xst, .ref xmn, .ref xdr, .ref xhe, .ref xrs, .ref xrm, .ref xrd, .ref xhr, .int vwr, .int x_14, .ref xki, .ref xin, .ref xpl, .ref xle, .ref xso, .ref xva, .ref xck, .ref xci, .ref xcp, .ref xcl, .ref xcs, .ref xcv])), (xck, .inl (G.2.1 0, 520, .inl a_3)), (xci, .inl (G.2.1 0, 520, .inl a_5)), (xcp, .inl (G.2.1 0, 520, .inl a_7)), (xcl, .inl (G.2.1 0, 520, .inl a_9)), (xcs, .inl (G.2.1 0, 520, .inl a_11)), (xcv, .inl (G.2.1 0, 520, .inl a_13))] := hD
    exact W.vret hx hb hr (fun t ht hW => ⟨⟨(a_3, a_5, a_7, a_9, a_11, a_13, x_14), rfl, hw, by have h9 := hP; rw [← ht] at h9; exact h9⟩, hS.F ht⟩) hS.2.2 d_Md_change_83
  · replace hw := hw.2 c_1
    exact W.vret hx hb hr (fun t ht hW => ⟨⟨(gck, gci, gcp, gcl, gcs, gcv, vch), rfl, hw, by have h9 := hP; rw [← ht] at h9; exact h9⟩, hS.F ht⟩) hS.2.2 d_Md_change_7
def wp_Md_byteAt_10 (post : Int32 → Prop) (mm : Int32) (vth : Int32) (vtp : Int32) (vme : Int32) (vta : Int32) (vpl : Int32) (vel : Int32) (vsg : Int32) (vus : Int32) (vrw : Int32) (vur : Int32) (vwr : Int32) (vch : Int32) (gki : Nat → Int32) (gin : Nat → Int32) (gpl : Nat → Int32) (gle : Nat → Int32) (gso : Nat → Int32) (gva : Nat → Int64) (ghe : Nat → Int32) : Nat → Int32 → Int32 → Prop
  | 0 => fun _ _ => False
  | n9 + 1 => fun x3 x4 => ((x4 < 0 → (post 0)) ∧ (¬ x4 < 0 → ((vp_in x4 520) ∧ (∀ x_103 : Int32, x_103 = x3 - (gpl x4.toNatClampNeg) → ((vp_in x4 520) ∧ (((¬ gin x4.toNatClampNeg = mm → (∀ x_106 : Int32, x_106 = x4 + (-1) → (wp_Md_byteAt_10 post mm vth vtp vme vta vpl vel vsg vus vrw vur vwr vch gki gin gpl gle gso gva ghe n9 x3 x_106))) ∧ (gin x4.toNatClampNeg = mm → (((x_103 < 0 → (∀ x_108 : Int32, x_108 = x4 + (-1) → (wp_Md_byteAt_10 post mm vth vtp vme vta vpl vel vsg vus vrw vur vwr vch gki gin gpl gle gso gva ghe n9 x3 x_108))) ∧ (¬ x_103 < 0 → ((vp_in x4 520) ∧ (((gle x4.toNatClampNeg ≤ x_103 → (∀ x_111 : Int32, x_111 = x4 + (-1) → (wp_Md_byteAt_10 post mm vth vtp vme vta vpl vel vsg vus vrw vur vwr vch gki gin gpl gle gso gva ghe n9 x3 x_111))) ∧ (¬ gle x4.toNatClampNeg ≤ x_103 → ((vp_in x4 520) ∧ (((¬ gki x4.toNatClampNeg = 1 → ((vp_in x4 520) ∧ (((¬ gki x4.toNatClampNeg = 2 → ((vp_in x4 520) ∧ (((¬ gki x4.toNatClampNeg = 4 → ((vp_in x4 520) ∧ (∀ x_119 : Int32, x_119 = (gso x4.toNatClampNeg) + x_103 → (∀ x_120 : Int32, x_120 = x4 + (-1) → (wp_Md_byteAt_10 post mm vth vtp vme vta vpl vel vsg vus vrw vur vwr vch gki gin gpl gle gso gva ghe n9 x_119 x_120))))) ∧ (gki x4.toNatClampNeg = 4 → ((vp_in x4 520) ∧ ((vp_in ((gso x4.toNatClampNeg) + x_103) 600) ∧ (post (ghe ((gso x4.toNatClampNeg) + x_103).toNatClampNeg))))))))) ∧ (gki x4.toNatClampNeg = 2 → ((vp_in x4 520) ∧ (post (((gva x4.toNatClampNeg) &&& 255).toInt32)))))))) ∧ (gki x4.toNatClampNeg = 1 → ((vp_in x4 520) ∧ (post ((((gva x4.toNatClampNeg) >>> ((8 * x_103).toInt64 &&& 63)) &&& 255).toInt32))))))))))))))))))))))
set_option maxHeartbeats 4000000 in
set_option maxRecDepth 100000 in
theorem l_Md_byteAt_10 {p : Program} {l : Launch} {e : Env} {s : State} {m : MethodId} {args : Array Value} {below : List Frame} {meth : Method} {c : Code} (G : cxT) (h : Nat) (xpg : Nat) (xli : Nat) (xty : Nat) (xen : Nat) (xtl : Nat) (xst : Nat) (xmn : Nat) (xdr : Nat) (xhe : Nat) (xrs : Nat) (xrm : Nat) (xrd : Nat) (xhr : Nat) (xki : Nat) (xin : Nat) (xpl : Nat) (xle : Nat) (xso : Nat) (xva : Nat) (xck : Nat) (xci : Nat) (xcp : Nat) (xcl : Nat) (xcs : Nat) (xcv : Nat) (post : Int32 → Prop) (mm : Int32) (vth : Int32) (vtp : Int32) (vme : Int32) (vta : Int32) (vpl : Int32) (vel : Int32) (vsg : Int32) (vus : Int32) (vrw : Int32) (vur : Int32) (vwr : Int32) (vch : Int32) (gki : Nat → Int32) (gin : Nat → Int32) (gpl : Nat → Int32) (gle : Nat → Int32) (gso : Nat → Int32) (gva : Nat → Int64) (ghe : Nat → Int32) (hx : p.tables.exec = Jvm.exec) (hb : c.code = b_Md_byteAt) (hr : meth.sig.returnType = (some .int)) (hml : c.maxLocals = 6) (hown : s.vm.findClass R_Md = some m.cls) (hlocks : meth.locks = false) (hcx : cx G (fun _ => False) s) :
    ∀ (n9 : Nat) (x3 : Int32) (x4 : Int32), wp_Md_byteAt_10 post mm vth vtp vme vta vpl vel vsg vus vrw vur vwr vch gki gin gpl gle gso gva ghe n9 x3 x4 → ∀ (H : Heap) (locs : List Loc), va_P G.1 vwC [(h, .inr (2, [.int vth, .int vtp, .int vme, .int vta, .int vpl, .int vel, .ref xpg, .ref xli, .ref xty, .ref xen, .ref xtl, .int vsg, .int vus, .int vrw, .int vur, .ref xst, .ref xmn, .ref xdr, .ref xhe, .ref xrs, .ref xrm, .ref xrd, .ref xhr, .int vwr, .int vch, .ref xki, .ref xin, .ref xpl, .ref xle, .ref xso, .ref xva, .ref xck, .ref xci, .ref xcp, .ref xcl, .ref xcs, .ref xcv])), (xki, .inl (G.2.1 0, 520, .inl gki)), (xin, .inl (G.2.1 0, 520, .inl gin)), (xpl, .inl (G.2.1 0, 520, .inl gpl)), (xle, .inl (G.2.1 0, 520, .inl gle)), (xso, .inl (G.2.1 0, 520, .inl gso)), (xva, .inl (G.2.1 3, 520, .inr (.inl gva))), (xhe, .inl (G.2.1 0, 600, .inl ghe))] H → va_S (fun _ => False) s.heap H locs → ∀ (ls : Array Slot), lv_has ls 6 [(0, .ref h), (1, .int mm), (3, .int x3), (4, .int x4)] → W p l e (headSpec [.code y_Md_byteAt b_Md_byteAt 6 (some .int)] ({ frames := 0, cells := 0, slots := 0, locals := 0 } : Room)).room s m args below meth c H locs 0 0 (MQ below (va_Qi (fun r (_ : Unit) => post r) (fun _ _ => True) (fun _ => False)) args s 0 0 (fun _ => False)) (F0 m 10 ls []) := by
  have hts := hcx.now.1 args
  have hK := hcx.now.2.1
  intro n9
  induction n9 with
  | zero =>
    intro x3 x4 hw
    exact hw.elim
  | succ n9 ih =>
    intro x3 x4 hw H locs hP hS ls hl
    unfold wp_Md_byteAt_10 at hw
    refine lv_iload hx hb d_Md_byteAt_10 (lv_at hl 3 rfl) ?_
    refine lv_if_lt (tgt := 152) hx hb d_Md_byteAt_12 (by decide) (fun c_101 => ?_) (fun c_101 => ?_)
    · replace hw := hw.1 c_101
      refine lv_iconst (v := 0) hx hb d_Md_byteAt_152 (by decide) ?_
      exact W.iret (v := 0) hx hb hr (fun t ht hW => ⟨⟨0, (), rfl, hw, trivial⟩, hS.F ht⟩) hS.2.2 d_Md_byteAt_153
    · replace hw := hw.2 c_101
      refine lv_iload_n hx hb d_Md_byteAt_15 rfl (lv_at hl 2 rfl) ?_
      refine lv_aload_n hx hb d_Md_byteAt_16 rfl (lv_at hl 0 rfl) ?_
      refine va_get (D := G.1) (ci := 2) (v := .ref xpl) (C := R_Md) (T := T_Md) (N := 37) hx hb hts in_Md hown hK hP 0 rfl rfl 27 (by decide) (hts _ fl_Md_63) (fun _ h9 => h9) rfl d_Md_byteAt_17 ?_
      refine lv_iload hx hb d_Md_byteAt_20 (lv_at hl 3 rfl) ?_
      obtain ⟨h_102, hw⟩ := hw
      refine va_iald hx hb hK hP 3 0 rfl rfl h_102 d_Md_byteAt_22 ?_
      refine lv_isub hx hb d_Md_byteAt_23 ?_
      refine lv_topi (fun x_103 ex_103 => ?_)
      replace hw := hw x_103 ex_103
      refine lv_istore (lv' := [(5, .int x_103), (0, .ref h), (1, .int mm), (3, .int x3), (4, .int x4)]) hx hb d_Md_byteAt_24 hl (by decide) rfl (fun ls hl => ?_)
      refine lv_aload_n hx hb d_Md_byteAt_26 rfl (lv_at hl 1 rfl) ?_
      refine va_get (D := G.1) (ci := 2) (v := .ref xin) (C := R_Md) (T := T_Md) (N := 37) hx hb hts in_Md hown hK hP 0 rfl rfl 26 (by decide) (hts _ fl_Md_60) (fun _ h9 => h9) rfl d_Md_byteAt_27 ?_
      refine lv_iload hx hb d_Md_byteAt_30 (lv_at hl 4 rfl) ?_
      obtain ⟨h_104, hw⟩ := hw
      refine va_iald hx hb hK hP 2 0 rfl rfl h_104 d_Md_byteAt_32 ?_
      refine lv_iload_n hx hb d_Md_byteAt_33 rfl (lv_at hl 2 rfl) ?_
      refine lv_icmp_ne (tgt := 146) hx hb d_Md_byteAt_34 (by decide) (fun c_105 => ?_) (fun c_105 => ?_)
      · replace hw := hw.1 c_105
        obtain ⟨x_106, ex_106⟩ : ∃ y : Int32, y = x4 + (-1) := ⟨_, rfl⟩
        replace hw := hw x_106 ex_106
        refine lv_iinc (v := x_106) (lv' := [(4, .int x_106), (5, .int x_103), (0, .ref h), (1, .int mm), (3, .int x3)]) hx hb d_Md_byteAt_146 hl (k := 4) rfl (by rw [ex_106]; rfl) (by decide) rfl (fun ls hl => ?_)
        refine lv_goto (tgt := 10) hx hb d_Md_byteAt_149 (by decide) ?_
        exact ih x3 x_106 hw _ _ hP hS ls (lv_sub hl [2, 3, 4, 0] rfl)
      · replace hw := hw.2 c_105
        refine lv_iload hx hb d_Md_byteAt_37 (lv_at hl 0 rfl) ?_
        refine lv_if_lt (tgt := 146) hx hb d_Md_byteAt_39 (by decide) (fun c_107 => ?_) (fun c_107 => ?_)
        · replace hw := hw.1 c_107
          obtain ⟨x_108, ex_108⟩ : ∃ y : Int32, y = x4 + (-1) := ⟨_, rfl⟩
          replace hw := hw x_108 ex_108
          refine lv_iinc (v := x_108) (lv' := [(4, .int x_108), (5, .int x_103), (0, .ref h), (1, .int mm), (3, .int x3)]) hx hb d_Md_byteAt_146 hl (k := 4) rfl (by rw [ex_108]; rfl) (by decide) rfl (fun ls hl => ?_)
          refine lv_goto (tgt := 10) hx hb d_Md_byteAt_149 (by decide) ?_
          exact ih x3 x_108 hw _ _ hP hS ls (lv_sub hl [2, 3, 4, 0] rfl)
        · replace hw := hw.2 c_107
          refine lv_iload hx hb d_Md_byteAt_42 (lv_at hl 0 rfl) ?_
          refine lv_aload_n hx hb d_Md_byteAt_44 rfl (lv_at hl 1 rfl) ?_
          refine va_get (D := G.1) (ci := 2) (v := .ref xle) (C := R_Md) (T := T_Md) (N := 37) hx hb hts in_Md hown hK hP 0 rfl rfl 28 (by decide) (hts _ fl_Md_66) (fun _ h9 => h9) rfl d_Md_byteAt_45 ?_
          refine lv_iload hx hb d_Md_byteAt_48 (lv_at hl 4 rfl) ?_
          obtain ⟨h_109, hw⟩ := hw
          refine va_iald hx hb hK hP 4 0 rfl rfl h_109 d_Md_byteAt_50 ?_
          refine lv_icmp_ge (tgt := 146) hx hb d_Md_byteAt_51 (by decide) (fun c_110 => ?_) (fun c_110 => ?_)
          · replace hw := hw.1 c_110
            obtain ⟨x_111, ex_111⟩ : ∃ y : Int32, y = x4 + (-1) := ⟨_, rfl⟩
            replace hw := hw x_111 ex_111
            refine lv_iinc (v := x_111) (lv' := [(4, .int x_111), (5, .int x_103), (0, .ref h), (1, .int mm), (3, .int x3)]) hx hb d_Md_byteAt_146 hl (k := 4) rfl (by rw [ex_111]; rfl) (by decide) rfl (fun ls hl => ?_)
            refine lv_goto (tgt := 10) hx hb d_Md_byteAt_149 (by decide) ?_
            exact ih x3 x_111 hw _ _ hP hS ls (lv_sub hl [2, 3, 4, 0] rfl)
          · replace hw := hw.2 c_110
            refine lv_aload_n hx hb d_Md_byteAt_54 rfl (lv_at hl 1 rfl) ?_
            refine va_get (D := G.1) (ci := 2) (v := .ref xki) (C := R_Md) (T := T_Md) (N := 37) hx hb hts in_Md hown hK hP 0 rfl rfl 25 (by decide) (hts _ fl_Md_57) (fun _ h9 => h9) rfl d_Md_byteAt_55 ?_
            refine lv_iload hx hb d_Md_byteAt_58 (lv_at hl 4 rfl) ?_
            obtain ⟨h_112, hw⟩ := hw
            refine va_iald hx hb hK hP 1 0 rfl rfl h_112 d_Md_byteAt_60 ?_
            refine lv_iconst (v := 1) hx hb d_Md_byteAt_61 (by decide) ?_
            refine lv_icmp_ne (tgt := 84) hx hb d_Md_byteAt_62 (by decide) (fun c_113 => ?_) (fun c_113 => ?_)
            · replace hw := hw.1 c_113
              refine lv_aload_n hx hb d_Md_byteAt_84 rfl (lv_at hl 1 rfl) ?_
              refine va_get (D := G.1) (ci := 2) (v := .ref xki) (C := R_Md) (T := T_Md) (N := 37) hx hb hts in_Md hown hK hP 0 rfl rfl 25 (by decide) (hts _ fl_Md_57) (fun _ h9 => h9) rfl d_Md_byteAt_85 ?_
              refine lv_iload hx hb d_Md_byteAt_88 (lv_at hl 4 rfl) ?_
              obtain ⟨h_114, hw⟩ := hw
              refine va_iald hx hb hK hP 1 0 rfl rfl h_114 d_Md_byteAt_90 ?_
              refine lv_iconst (v := 2) hx hb d_Md_byteAt_91 (by decide) ?_
              refine lv_icmp_ne (tgt := 108) hx hb d_Md_byteAt_92 (by decide) (fun c_115 => ?_) (fun c_115 => ?_)
              · replace hw := hw.1 c_115
                refine lv_aload_n hx hb d_Md_byteAt_108 rfl (lv_at hl 1 rfl) ?_
                refine va_get (D := G.1) (ci := 2) (v := .ref xki) (C := R_Md) (T := T_Md) (N := 37) hx hb hts in_Md hown hK hP 0 rfl rfl 25 (by decide) (hts _ fl_Md_57) (fun _ h9 => h9) rfl d_Md_byteAt_109 ?_
                refine lv_iload hx hb d_Md_byteAt_112 (lv_at hl 4 rfl) ?_
                obtain ⟨h_116, hw⟩ := hw
                refine va_iald hx hb hK hP 1 0 rfl rfl h_116 d_Md_byteAt_114 ?_
                refine lv_iconst (v := 4) hx hb d_Md_byteAt_115 (by decide) ?_
                refine lv_icmp_ne (tgt := 135) hx hb d_Md_byteAt_116 (by decide) (fun c_117 => ?_) (fun c_117 => ?_)
                · replace hw := hw.1 c_117
                  refine lv_aload_n hx hb d_Md_byteAt_135 rfl (lv_at hl 1 rfl) ?_
                  refine va_get (D := G.1) (ci := 2) (v := .ref xso) (C := R_Md) (T := T_Md) (N := 37) hx hb hts in_Md hown hK hP 0 rfl rfl 29 (by decide) (hts _ fl_Md_69) (fun _ h9 => h9) rfl d_Md_byteAt_136 ?_
                  refine lv_iload hx hb d_Md_byteAt_139 (lv_at hl 4 rfl) ?_
                  obtain ⟨h_118, hw⟩ := hw
                  refine va_iald hx hb hK hP 5 0 rfl rfl h_118 d_Md_byteAt_141 ?_
                  refine lv_iload hx hb d_Md_byteAt_142 (lv_at hl 0 rfl) ?_
                  refine lv_iadd hx hb d_Md_byteAt_144 ?_
                  refine lv_topi (fun x_119 ex_119 => ?_)
                  replace hw := hw x_119 ex_119
                  refine lv_istore_n (lv' := [(3, .int x_119), (5, .int x_103), (0, .ref h), (1, .int mm), (4, .int x4)]) hx hb d_Md_byteAt_145 rfl hl (by decide) rfl (fun ls hl => ?_)
                  obtain ⟨x_120, ex_120⟩ : ∃ y : Int32, y = x4 + (-1) := ⟨_, rfl⟩
                  replace hw := hw x_120 ex_120
                  refine lv_iinc (v := x_120) (lv' := [(4, .int x_120), (3, .int x_119), (5, .int x_103), (0, .ref h), (1, .int mm)]) hx hb d_Md_byteAt_146 hl (k := 4) rfl (by rw [ex_120]; rfl) (by decide) rfl (fun ls hl => ?_)
                  refine lv_goto (tgt := 10) hx hb d_Md_byteAt_149 (by decide) ?_
                  exact ih x_119 x_120 hw _ _ hP hS ls (lv_sub hl [3, 4, 1, 0] rfl)
                · replace hw := hw.2 c_117
                  refine lv_aload_n hx hb d_Md_byteAt_119 rfl (lv_at hl 1 rfl) ?_
                  refine va_get (D := G.1) (ci := 2) (v := .ref xhe) (C := R_Md) (T := T_Md) (N := 37) hx hb hts in_Md hown hK hP 0 rfl rfl 18 (by decide) (hts _ fl_Md_42) (fun _ h9 => h9) rfl d_Md_byteAt_120 ?_
                  refine lv_aload_n hx hb d_Md_byteAt_123 rfl (lv_at hl 1 rfl) ?_
                  refine va_get (D := G.1) (ci := 2) (v := .ref xso) (C := R_Md) (T := T_Md) (N := 37) hx hb hts in_Md hown hK hP 0 rfl rfl 29 (by decide) (hts _ fl_Md_69) (fun _ h9 => h9) rfl d_Md_byteAt_124 ?_
                  refine lv_iload hx hb d_Md_byteAt_127 (lv_at hl 4 rfl) ?_
                  obtain ⟨h_121, hw⟩ := hw
                  refine va_iald hx hb hK hP 5 0 rfl rfl h_121 d_Md_byteAt_129 ?_
                  refine lv_iload hx hb d_Md_byteAt_130 (lv_at hl 0 rfl) ?_
                  refine lv_iadd hx hb d_Md_byteAt_132 ?_
                  obtain ⟨h_122, hw⟩ := hw
                  refine va_iald hx hb hK hP 7 0 rfl rfl h_122 d_Md_byteAt_133 ?_
                  exact W.iret (v := ghe ((gso x4.toNatClampNeg) + x_103).toNatClampNeg) hx hb hr (fun t ht hW => ⟨⟨ghe ((gso x4.toNatClampNeg) + x_103).toNatClampNeg, (), rfl, hw, trivial⟩, hS.F ht⟩) hS.2.2 d_Md_byteAt_134
              · replace hw := hw.2 c_115
                refine lv_aload_n hx hb d_Md_byteAt_95 rfl (lv_at hl 1 rfl) ?_
                refine va_get (D := G.1) (ci := 2) (v := .ref xva) (C := R_Md) (T := T_Md) (N := 37) hx hb hts in_Md hown hK hP 0 rfl rfl 30 (by decide) (hts _ fl_Md_72) (fun _ h9 => h9) rfl d_Md_byteAt_96 ?_
                refine lv_iload hx hb d_Md_byteAt_99 (lv_at hl 4 rfl) ?_
                obtain ⟨h_123, hw⟩ := hw
                refine va_lald hx hb hK hP 6 3 rfl rfl h_123 d_Md_byteAt_101 ?_
                refine lv_ldc2 (v := 255) hx hb hown (hts _ k_Md_116) d_Md_byteAt_102 ?_
                refine lv_land hx hb d_Md_byteAt_105 ?_
                refine lv_l2i (v := ((gva x4.toNatClampNeg) &&& 255).toInt32) hx hb d_Md_byteAt_106 rfl ?_
                exact W.iret (v := ((gva x4.toNatClampNeg) &&& 255).toInt32) hx hb hr (fun t ht hW => ⟨⟨((gva x4.toNatClampNeg) &&& 255).toInt32, (), rfl, hw, trivial⟩, hS.F ht⟩) hS.2.2 d_Md_byteAt_107
            · replace hw := hw.2 c_113
              refine lv_aload_n hx hb d_Md_byteAt_65 rfl (lv_at hl 1 rfl) ?_
              refine va_get (D := G.1) (ci := 2) (v := .ref xva) (C := R_Md) (T := T_Md) (N := 37) hx hb hts in_Md hown hK hP 0 rfl rfl 30 (by decide) (hts _ fl_Md_72) (fun _ h9 => h9) rfl d_Md_byteAt_66 ?_
              refine lv_iload hx hb d_Md_byteAt_69 (lv_at hl 4 rfl) ?_
              obtain ⟨h_124, hw⟩ := hw
              refine va_lald hx hb hK hP 6 3 rfl rfl h_124 d_Md_byteAt_71 ?_
              refine lv_bipush (v := 8) hx hb d_Md_byteAt_72 (by decide) ?_
              refine lv_iload hx hb d_Md_byteAt_74 (lv_at hl 0 rfl) ?_
              refine lv_imul hx hb d_Md_byteAt_76 ?_
              refine lv_lshr (v := (gva x4.toNatClampNeg) >>> ((8 * x_103).toInt64 &&& 63)) hx hb d_Md_byteAt_77 rfl ?_
              refine lv_ldc2 (v := 255) hx hb hown (hts _ k_Md_116) d_Md_byteAt_78 ?_
              refine lv_land hx hb d_Md_byteAt_81 ?_
              refine lv_l2i (v := (((gva x4.toNatClampNeg) >>> ((8 * x_103).toInt64 &&& 63)) &&& 255).toInt32) hx hb d_Md_byteAt_82 rfl ?_
              exact W.iret (v := (((gva x4.toNatClampNeg) >>> ((8 * x_103).toInt64 &&& 63)) &&& 255).toInt32) hx hb hr (fun t ht hW => ⟨⟨(((gva x4.toNatClampNeg) >>> ((8 * x_103).toInt64 &&& 63)) &&& 255).toInt32, (), rfl, hw, trivial⟩, hS.F ht⟩) hS.2.2 d_Md_byteAt_83
def wp_Md_byteAt (post : Int32 → Prop) (vth : Int32) (vtp : Int32) (vme : Int32) (vta : Int32) (vpl : Int32) (vel : Int32) (vsg : Int32) (vus : Int32) (vrw : Int32) (vur : Int32) (vwr : Int32) (vch : Int32) (gki : Nat → Int32) (gin : Nat → Int32) (gpl : Nat → Int32) (gle : Nat → Int32) (gso : Nat → Int32) (gva : Nat → Int64) (ghe : Nat → Int32) (mm : Int32) (ad : Int32) : Prop := ∀ x_1 : Int32, x_1 = vwr - 1 → (∃ n9 : Nat, wp_Md_byteAt_10 post mm vth vtp vme vta vpl vel vsg vus vrw vur vwr vch gki gin gpl gle gso gva ghe n9 ad x_1)
set_option maxHeartbeats 4000000 in
set_option maxRecDepth 100000 in
theorem t_Md_byteAt (l : Launch) (G : cxT) (h : Nat) (xpg : Nat) (xli : Nat) (xty : Nat) (xen : Nat) (xtl : Nat) (xst : Nat) (xmn : Nat) (xdr : Nat) (xhe : Nat) (xrs : Nat) (xrm : Nat) (xrd : Nat) (xhr : Nat) (xki : Nat) (xin : Nat) (xpl : Nat) (xle : Nat) (xso : Nat) (xva : Nat) (xck : Nat) (xci : Nat) (xcp : Nat) (xcl : Nat) (xcs : Nat) (xcv : Nat) (vth : Int32) (vtp : Int32) (vme : Int32) (vta : Int32) (vpl : Int32) (vel : Int32) (vsg : Int32) (vus : Int32) (vrw : Int32) (vur : Int32) (vwr : Int32) (vch : Int32) (gki : Nat → Int32) (gin : Nat → Int32) (gpl : Nat → Int32) (gle : Nat → Int32) (gso : Nat → Int32) (gva : Nat → Int64) (ghe : Nat → Int32) (mm : Int32) (ad : Int32) (post : Int32 → Prop) (hw : wp_Md_byteAt post vth vtp vme vta vpl vel vsg vus vrw vur vwr vch gki gin gpl gle gso gva ghe mm ad) : Met l y_Md_byteAt [.code y_Md_byteAt b_Md_byteAt 6 (some .int)] ({ frames := 0, cells := 0, slots := 0, locals := 0 } : Room) (cp G [.ref h, .int mm, .int ad] [(h, .inr (2, [.int vth, .int vtp, .int vme, .int vta, .int vpl, .int vel, .ref xpg, .ref xli, .ref xty, .ref xen, .ref xtl, .int vsg, .int vus, .int vrw, .int vur, .ref xst, .ref xmn, .ref xdr, .ref xhe, .ref xrs, .ref xrm, .ref xrd, .ref xhr, .int vwr, .int vch, .ref xki, .ref xin, .ref xpl, .ref xle, .ref xso, .ref xva, .ref xck, .ref xci, .ref xcp, .ref xcl, .ref xcs, .ref xcv])), (xki, .inl (G.2.1 0, 520, .inl gki)), (xin, .inl (G.2.1 0, 520, .inl gin)), (xpl, .inl (G.2.1 0, 520, .inl gpl)), (xle, .inl (G.2.1 0, 520, .inl gle)), (xso, .inl (G.2.1 0, 520, .inl gso)), (xva, .inl (G.2.1 3, 520, .inr (.inl gva))), (xhe, .inl (G.2.1 0, 600, .inl ghe))]) (va_Qi (fun r (_ : Unit) => post r) (fun _ _ => True) (fun _ => False)) 0 0 (fun _ => False) := by
  refine Met.ofW (cc := b_Md_byteAt) (maxL := 6) (ret := (some .int)) (by decide +kernel) rfl ?_
  intro p e s m args below meth c s₁ B hml hv
  obtain ⟨rfl, hcx, hP⟩ := hv
  have hx := B.exec
  have hb := B.bytes
  have hr := B.returns
  have hlocks := B.notSynchronized
  have hown : s.vm.findClass R_Md = some m.cls := findClass_of_methodNamed B.named
  have hS : va_S (fun _ => False) s.heap s.heap [] := va_S.rf
  have hts := hcx.now.1 [.ref h, .int mm, .int ad].toArray
  have hK := hcx.now.2.1
  have hl := lv_entry ([.ref h, .int mm, .int ad]) (n := 6) (Nat.le_of_ble_eq_true rfl)
  rw [lg_entry_eq]
  generalize (lg_sl ([.ref h, .int mm, .int ad]) ++ List.replicate (6 - (lg_sl ([.ref h, .int mm, .int ad])).length) Slot.unset).toArray = ls at hl ⊢
  have hl : lv_has ls 6 [(0, .ref h), (1, .int mm), (2, .int ad)] := hl
  unfold wp_Md_byteAt at hw
  refine lv_iload_n hx hb d_Md_byteAt_0 rfl (lv_at hl 2 rfl) ?_
  refine lv_istore_n (lv' := [(3, .int ad), (0, .ref h), (1, .int mm), (2, .int ad)]) hx hb d_Md_byteAt_1 rfl hl (by decide) rfl (fun ls hl => ?_)
  refine lv_aload_n hx hb d_Md_byteAt_2 rfl (lv_at hl 1 rfl) ?_
  refine va_get (D := G.1) (ci := 2) (v := .int vwr) (C := R_Md) (T := T_Md) (N := 37) hx hb hts in_Md hown hK hP 0 rfl rfl 23 (by decide) (hts _ fl_Md_110) (fun _ h9 => h9) rfl d_Md_byteAt_3 ?_
  refine lv_iconst (v := 1) hx hb d_Md_byteAt_6 (by decide) ?_
  refine lv_isub hx hb d_Md_byteAt_7 ?_
  refine lv_topi (fun x_1 ex_1 => ?_)
  replace hw := hw x_1 ex_1
  refine lv_istore (lv' := [(4, .int x_1), (3, .int ad), (0, .ref h), (1, .int mm), (2, .int ad)]) hx hb d_Md_byteAt_8 hl (by decide) rfl (fun ls hl => ?_)
  obtain ⟨n9, hw⟩ := hw
  exact l_Md_byteAt_10 G h xpg xli xty xen xtl xst xmn xdr xhe xrs xrm xrd xhr xki xin xpl xle xso xva xck xci xcp xcl xcs xcv post mm vth vtp vme vta vpl vel vsg vus vrw vur vwr vch gki gin gpl gle gso gva ghe hx hb hr hml hown hlocks hcx n9 ad x_1 hw _ _ hP hS ls (lv_sub hl [2, 3, 1, 0] rfl)
