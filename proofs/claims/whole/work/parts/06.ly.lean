/-! ===== Layout: what its methods answer ===== -/
def ly_has (cnt k : Int32) : Int32 := if k < 0 then 0 else if cnt ≤ k then 0 else 1
def ly_full (cnt : Int32) (n : Nat) : Int32 := if cnt < nI n then 0 else 1
def ly_st (cnt k : Int32) (f0 : Nat → Int32) : Int32 := if ly_has cnt k = 0 then 0 else f0 k.toNatClampNeg
def ly_ln (cnt k : Int32) (f1 : Nat → Int32) : Int32 := if ly_has cnt k = 0 then (-1) else f1 k.toNatClampNeg
def ly_en (cnt us k : Int32) (f0 f1 : Nat → Int32) : Int32 := if ly_has cnt k = 0 then us else f0 k.toNatClampNeg + f1 k.toNatClampNeg
def ly_can (cnt us rm m mo : Int32) (n : Nat) (f2 : Nat → Int32) : Int32 := if mo = 0 then (if ly_full cnt n = 0 then (if rm - us < m then 0 else 1) else 0) else (if cnt ≤ 0 then 0 else if f2 (cnt - 1).toNatClampNeg = 0 then (if rm - us < m then 0 else 1) else 0)
theorem ly_has_in {cnt k : Int32} {n : Nat} (h : ¬ ly_has cnt k = 0) (hc : cnt.toInt ≤ n) : vp_in k n := by
  unfold ly_has at h
  by_cases h1 : k < 0
  · simp [h1] at h
  · by_cases h2 : cnt ≤ k
    · simp [h1, h2] at h
    · rw [vp_in_iff]
      rw [Int32.lt_iff_toInt_lt] at h1
      rw [Int32.le_iff_toInt_le] at h2
      have e : (0 : Int32).toInt = 0 := rfl
      omega

def wp_Ly_has (post : Int32 → Prop) (n : Nat) (rm : Int32) (cnt : Int32) (us : Int32) (f0 : Nat → Int32) (f1 : Nat → Int32) (f2 : Nat → Int32) (k : Int32) : Prop := ((k < 0 → (post 0)) ∧ (¬ k < 0 → (((cnt ≤ k → (post 0)) ∧ (¬ cnt ≤ k → (post 1))))))
set_option maxHeartbeats 4000000 in
set_option maxRecDepth 100000 in
theorem t_Ly_has (l : Launch) (G : cxT) (h : Nat) (a1 : Nat) (a2 : Nat) (a3 : Nat) (n : Nat) (rm : Int32) (cnt : Int32) (us : Int32) (f0 : Nat → Int32) (f1 : Nat → Int32) (f2 : Nat → Int32) (k : Int32) (post : Int32 → Prop) (hw : wp_Ly_has post n rm cnt us f0 f1 f2 k) : Met l y_Ly_has [.code y_Ly_has b_Ly_has 2 (some .boolean)] ({ frames := 0, cells := 0, slots := 0, locals := 0 } : Room) (cp G [.ref h, .int k] [(h, .inr (0, [.int rm, .ref a1, .ref a2, .ref a3, .int cnt, .int us])), (a1, .inl (G.2.1 0, n, .inl f0)), (a2, .inl (G.2.1 0, n, .inl f1)), (a3, .inl (G.2.1 2, n, .inl f2))]) (va_Qi (fun r (_ : Unit) => post r) (fun _ _ => True) (fun _ => False)) 0 0 (fun _ => False) := by
  refine Met.ofW (cc := b_Ly_has) (maxL := 2) (ret := (some .boolean)) (by decide +kernel) rfl ?_
  intro p e s m args below meth c s₁ B hml hv
  obtain ⟨rfl, hcx, hP⟩ := hv
  have hx := B.exec
  have hb := B.bytes
  have hr := B.returns
  have hlocks := B.notSynchronized
  have hown : s.vm.findClass R_Ly = some m.cls := findClass_of_methodNamed B.named
  have hS : va_S (fun _ => False) s.heap s.heap [] := va_S.rf
  have hts := hcx.now.1 [.ref h, .int k].toArray
  have hK := hcx.now.2.1
  have hl := lv_entry ([.ref h, .int k]) (n := 2) (Nat.le_of_ble_eq_true rfl)
  rw [lg_entry_eq]
  generalize (lg_sl ([.ref h, .int k]) ++ List.replicate (2 - (lg_sl ([.ref h, .int k])).length) Slot.unset).toArray = ls at hl ⊢
  have hl : lv_has ls 2 [(0, .ref h), (1, .int k)] := hl
  unfold wp_Ly_has at hw
  refine lv_iload_n hx hb d_Ly_has_0 rfl (lv_at hl 1 rfl) ?_
  refine lv_if_lt (tgt := 16) hx hb d_Ly_has_1 (by decide) (fun c_1 => ?_) (fun c_1 => ?_)
  · replace hw := hw.1 c_1
    refine lv_iconst (v := 0) hx hb d_Ly_has_16 (by decide) ?_
    exact W.zret (v := 0) (ty := .boolean) hx hb hr rfl (fun t ht hW => ⟨⟨0, (), rfl, hw, trivial⟩, hS.F ht⟩) hS.2.2 d_Ly_has_17
  · replace hw := hw.2 c_1
    refine lv_iload_n hx hb d_Ly_has_4 rfl (lv_at hl 1 rfl) ?_
    refine lv_aload_n hx hb d_Ly_has_5 rfl (lv_at hl 0 rfl) ?_
    refine va_get (D := G.1) (ci := 0) (v := .int cnt) (C := R_Ly) (T := T_Ly) (N := 6) hx hb hts in_Ly hown hK hP 0 rfl rfl 4 (by decide) (hts _ fl_Ly_26) (fun _ h9 => h9) rfl d_Ly_has_6 ?_
    refine lv_icmp_ge (tgt := 16) hx hb d_Ly_has_9 (by decide) (fun c_2 => ?_) (fun c_2 => ?_)
    · replace hw := hw.1 c_2
      refine lv_iconst (v := 0) hx hb d_Ly_has_16 (by decide) ?_
      exact W.zret (v := 0) (ty := .boolean) hx hb hr rfl (fun t ht hW => ⟨⟨0, (), rfl, hw, trivial⟩, hS.F ht⟩) hS.2.2 d_Ly_has_17
    · replace hw := hw.2 c_2
      refine lv_iconst (v := 1) hx hb d_Ly_has_12 (by decide) ?_
      refine lv_goto (tgt := 17) hx hb d_Ly_has_13 (by decide) ?_
      exact W.zret (v := 1) (ty := .boolean) hx hb hr rfl (fun t ht hW => ⟨⟨1, (), rfl, hw, trivial⟩, hS.F ht⟩) hS.2.2 d_Ly_has_17
theorem c_Ly_has (l : Launch) (G : cxT) (h : Nat) (a1 : Nat) (a2 : Nat) (a3 : Nat) (n : Nat) (rm : Int32) (cnt : Int32) (us : Int32) (f0 : Nat → Int32) (f1 : Nat → Int32) (f2 : Nat → Int32) (k : Int32) : Met l y_Ly_has [.code y_Ly_has b_Ly_has 2 (some .boolean)] ({ frames := 0, cells := 0, slots := 0, locals := 0 } : Room) (cp G [.ref h, .int k] [(h, .inr (0, [.int rm, .ref a1, .ref a2, .ref a3, .int cnt, .int us])), (a1, .inl (G.2.1 0, n, .inl f0)), (a2, .inl (G.2.1 0, n, .inl f1)), (a3, .inl (G.2.1 2, n, .inl f2))]) (va_Qi (fun r (_ : Unit) => (fun r => r = (ly_has cnt k)) r) (fun _ _ => True) (fun _ => False)) 0 0 (fun _ => False) :=
  t_Ly_has l G h a1 a2 a3 n rm cnt us f0 f1 f2 k (fun r => r = (ly_has cnt k)) (by
    unfold wp_Ly_has ly_has
    exact ⟨fun c1 => by simp [c1], fun c1 => ⟨fun c2 => by simp [c1, c2], fun c2 => by simp [c1, c2]⟩⟩)
def wp_Ly_isFull (post : Int32 → Prop) (n : Nat) (rm : Int32) (cnt : Int32) (us : Int32) (f0 : Nat → Int32) (f1 : Nat → Int32) (f2 : Nat → Int32) : Prop := ((cnt < nI n → (post 0)) ∧ (¬ cnt < nI n → (post 1)))
set_option maxHeartbeats 4000000 in
set_option maxRecDepth 100000 in
theorem t_Ly_isFull (l : Launch) (G : cxT) (h : Nat) (a1 : Nat) (a2 : Nat) (a3 : Nat) (n : Nat) (rm : Int32) (cnt : Int32) (us : Int32) (f0 : Nat → Int32) (f1 : Nat → Int32) (f2 : Nat → Int32) (post : Int32 → Prop) (hw : wp_Ly_isFull post n rm cnt us f0 f1 f2) : Met l y_Ly_isFull [.code y_Ly_isFull b_Ly_isFull 1 (some .boolean)] ({ frames := 0, cells := 0, slots := 0, locals := 0 } : Room) (cp G [.ref h] [(h, .inr (0, [.int rm, .ref a1, .ref a2, .ref a3, .int cnt, .int us])), (a1, .inl (G.2.1 0, n, .inl f0)), (a2, .inl (G.2.1 0, n, .inl f1)), (a3, .inl (G.2.1 2, n, .inl f2))]) (va_Qi (fun r (_ : Unit) => post r) (fun _ _ => True) (fun _ => False)) 0 0 (fun _ => False) := by
  refine Met.ofW (cc := b_Ly_isFull) (maxL := 1) (ret := (some .boolean)) (by decide +kernel) rfl ?_
  intro p e s m args below meth c s₁ B hml hv
  obtain ⟨rfl, hcx, hP⟩ := hv
  have hx := B.exec
  have hb := B.bytes
  have hr := B.returns
  have hlocks := B.notSynchronized
  have hown : s.vm.findClass R_Ly = some m.cls := findClass_of_methodNamed B.named
  have hS : va_S (fun _ => False) s.heap s.heap [] := va_S.rf
  have hts := hcx.now.1 [.ref h].toArray
  have hK := hcx.now.2.1
  have hl := lv_entry ([.ref h]) (n := 1) (Nat.le_of_ble_eq_true rfl)
  rw [lg_entry_eq]
  generalize (lg_sl ([.ref h]) ++ List.replicate (1 - (lg_sl ([.ref h])).length) Slot.unset).toArray = ls at hl ⊢
  have hl : lv_has ls 1 [(0, .ref h)] := hl
  unfold wp_Ly_isFull at hw
  refine lv_aload_n hx hb d_Ly_isFull_0 rfl (lv_at hl 0 rfl) ?_
  refine va_get (D := G.1) (ci := 0) (v := .int cnt) (C := R_Ly) (T := T_Ly) (N := 6) hx hb hts in_Ly hown hK hP 0 rfl rfl 4 (by decide) (hts _ fl_Ly_26) (fun _ h9 => h9) rfl d_Ly_isFull_1 ?_
  refine lv_aload_n hx hb d_Ly_isFull_4 rfl (lv_at hl 0 rfl) ?_
  refine va_get (D := G.1) (ci := 0) (v := .ref a1) (C := R_Ly) (T := T_Ly) (N := 6) hx hb hts in_Ly hown hK hP 0 rfl rfl 1 (by decide) (hts _ fl_Ly_15) (fun _ h9 => h9) rfl d_Ly_isFull_5 ?_
  refine va_alen (v := nI n) hx hb hK hP 1 0 rfl rfl rfl d_Ly_isFull_8 ?_
  refine lv_icmp_lt (tgt := 16) hx hb d_Ly_isFull_9 (by decide) (fun c_1 => ?_) (fun c_1 => ?_)
  · replace hw := hw.1 c_1
    refine lv_iconst (v := 0) hx hb d_Ly_isFull_16 (by decide) ?_
    exact W.zret (v := 0) (ty := .boolean) hx hb hr rfl (fun t ht hW => ⟨⟨0, (), rfl, hw, trivial⟩, hS.F ht⟩) hS.2.2 d_Ly_isFull_17
  · replace hw := hw.2 c_1
    refine lv_iconst (v := 1) hx hb d_Ly_isFull_12 (by decide) ?_
    refine lv_goto (tgt := 17) hx hb d_Ly_isFull_13 (by decide) ?_
    exact W.zret (v := 1) (ty := .boolean) hx hb hr rfl (fun t ht hW => ⟨⟨1, (), rfl, hw, trivial⟩, hS.F ht⟩) hS.2.2 d_Ly_isFull_17
theorem c_Ly_isFull (l : Launch) (G : cxT) (h : Nat) (a1 : Nat) (a2 : Nat) (a3 : Nat) (n : Nat) (rm : Int32) (cnt : Int32) (us : Int32) (f0 : Nat → Int32) (f1 : Nat → Int32) (f2 : Nat → Int32) : Met l y_Ly_isFull [.code y_Ly_isFull b_Ly_isFull 1 (some .boolean)] ({ frames := 0, cells := 0, slots := 0, locals := 0 } : Room) (cp G [.ref h] [(h, .inr (0, [.int rm, .ref a1, .ref a2, .ref a3, .int cnt, .int us])), (a1, .inl (G.2.1 0, n, .inl f0)), (a2, .inl (G.2.1 0, n, .inl f1)), (a3, .inl (G.2.1 2, n, .inl f2))]) (va_Qi (fun r (_ : Unit) => (fun r => r = (ly_full cnt n)) r) (fun _ _ => True) (fun _ => False)) 0 0 (fun _ => False) :=
  t_Ly_isFull l G h a1 a2 a3 n rm cnt us f0 f1 f2 (fun r => r = (ly_full cnt n)) (by
    unfold wp_Ly_isFull ly_full
    exact ⟨fun c1 => by simp [c1], fun c1 => by simp [c1]⟩)
def wp_Ly_count (post : Int32 → Prop) (n : Nat) (rm : Int32) (cnt : Int32) (us : Int32) (f0 : Nat → Int32) (f1 : Nat → Int32) (f2 : Nat → Int32) : Prop := post cnt
set_option maxHeartbeats 4000000 in
set_option maxRecDepth 100000 in
theorem t_Ly_count (l : Launch) (G : cxT) (h : Nat) (a1 : Nat) (a2 : Nat) (a3 : Nat) (n : Nat) (rm : Int32) (cnt : Int32) (us : Int32) (f0 : Nat → Int32) (f1 : Nat → Int32) (f2 : Nat → Int32) (post : Int32 → Prop) (hw : wp_Ly_count post n rm cnt us f0 f1 f2) : Met l y_Ly_count [.code y_Ly_count b_Ly_count 1 (some .int)] ({ frames := 0, cells := 0, slots := 0, locals := 0 } : Room) (cp G [.ref h] [(h, .inr (0, [.int rm, .ref a1, .ref a2, .ref a3, .int cnt, .int us])), (a1, .inl (G.2.1 0, n, .inl f0)), (a2, .inl (G.2.1 0, n, .inl f1)), (a3, .inl (G.2.1 2, n, .inl f2))]) (va_Qi (fun r (_ : Unit) => post r) (fun _ _ => True) (fun _ => False)) 0 0 (fun _ => False) := by
  refine Met.ofW (cc := b_Ly_count) (maxL := 1) (ret := (some .int)) (by decide +kernel) rfl ?_
  intro p e s m args below meth c s₁ B hml hv
  obtain ⟨rfl, hcx, hP⟩ := hv
  have hx := B.exec
  have hb := B.bytes
  have hr := B.returns
  have hlocks := B.notSynchronized
  have hown : s.vm.findClass R_Ly = some m.cls := findClass_of_methodNamed B.named
  have hS : va_S (fun _ => False) s.heap s.heap [] := va_S.rf
  have hts := hcx.now.1 [.ref h].toArray
  have hK := hcx.now.2.1
  have hl := lv_entry ([.ref h]) (n := 1) (Nat.le_of_ble_eq_true rfl)
  rw [lg_entry_eq]
  generalize (lg_sl ([.ref h]) ++ List.replicate (1 - (lg_sl ([.ref h])).length) Slot.unset).toArray = ls at hl ⊢
  have hl : lv_has ls 1 [(0, .ref h)] := hl
  unfold wp_Ly_count at hw
  refine lv_aload_n hx hb d_Ly_count_0 rfl (lv_at hl 0 rfl) ?_
  refine va_get (D := G.1) (ci := 0) (v := .int cnt) (C := R_Ly) (T := T_Ly) (N := 6) hx hb hts in_Ly hown hK hP 0 rfl rfl 4 (by decide) (hts _ fl_Ly_26) (fun _ h9 => h9) rfl d_Ly_count_1 ?_
  exact W.iret (v := cnt) hx hb hr (fun t ht hW => ⟨⟨cnt, (), rfl, hw, trivial⟩, hS.F ht⟩) hS.2.2 d_Ly_count_4
theorem c_Ly_count (l : Launch) (G : cxT) (h : Nat) (a1 : Nat) (a2 : Nat) (a3 : Nat) (n : Nat) (rm : Int32) (cnt : Int32) (us : Int32) (f0 : Nat → Int32) (f1 : Nat → Int32) (f2 : Nat → Int32) : Met l y_Ly_count [.code y_Ly_count b_Ly_count 1 (some .int)] ({ frames := 0, cells := 0, slots := 0, locals := 0 } : Room) (cp G [.ref h] [(h, .inr (0, [.int rm, .ref a1, .ref a2, .ref a3, .int cnt, .int us])), (a1, .inl (G.2.1 0, n, .inl f0)), (a2, .inl (G.2.1 0, n, .inl f1)), (a3, .inl (G.2.1 2, n, .inl f2))]) (va_Qi (fun r (_ : Unit) => (fun r => r = cnt) r) (fun _ _ => True) (fun _ => False)) 0 0 (fun _ => False) :=
  t_Ly_count l G h a1 a2 a3 n rm cnt us f0 f1 f2 (fun r => r = cnt) (by
    exact rfl)
def wp_Ly_used (post : Int32 → Prop) (n : Nat) (rm : Int32) (cnt : Int32) (us : Int32) (f0 : Nat → Int32) (f1 : Nat → Int32) (f2 : Nat → Int32) : Prop := post us
set_option maxHeartbeats 4000000 in
set_option maxRecDepth 100000 in
theorem t_Ly_used (l : Launch) (G : cxT) (h : Nat) (a1 : Nat) (a2 : Nat) (a3 : Nat) (n : Nat) (rm : Int32) (cnt : Int32) (us : Int32) (f0 : Nat → Int32) (f1 : Nat → Int32) (f2 : Nat → Int32) (post : Int32 → Prop) (hw : wp_Ly_used post n rm cnt us f0 f1 f2) : Met l y_Ly_used [.code y_Ly_used b_Ly_used 1 (some .int)] ({ frames := 0, cells := 0, slots := 0, locals := 0 } : Room) (cp G [.ref h] [(h, .inr (0, [.int rm, .ref a1, .ref a2, .ref a3, .int cnt, .int us])), (a1, .inl (G.2.1 0, n, .inl f0)), (a2, .inl (G.2.1 0, n, .inl f1)), (a3, .inl (G.2.1 2, n, .inl f2))]) (va_Qi (fun r (_ : Unit) => post r) (fun _ _ => True) (fun _ => False)) 0 0 (fun _ => False) := by
  refine Met.ofW (cc := b_Ly_used) (maxL := 1) (ret := (some .int)) (by decide +kernel) rfl ?_
  intro p e s m args below meth c s₁ B hml hv
  obtain ⟨rfl, hcx, hP⟩ := hv
  have hx := B.exec
  have hb := B.bytes
  have hr := B.returns
  have hlocks := B.notSynchronized
  have hown : s.vm.findClass R_Ly = some m.cls := findClass_of_methodNamed B.named
  have hS : va_S (fun _ => False) s.heap s.heap [] := va_S.rf
  have hts := hcx.now.1 [.ref h].toArray
  have hK := hcx.now.2.1
  have hl := lv_entry ([.ref h]) (n := 1) (Nat.le_of_ble_eq_true rfl)
  rw [lg_entry_eq]
  generalize (lg_sl ([.ref h]) ++ List.replicate (1 - (lg_sl ([.ref h])).length) Slot.unset).toArray = ls at hl ⊢
  have hl : lv_has ls 1 [(0, .ref h)] := hl
  unfold wp_Ly_used at hw
  refine lv_aload_n hx hb d_Ly_used_0 rfl (lv_at hl 0 rfl) ?_
  refine va_get (D := G.1) (ci := 0) (v := .int us) (C := R_Ly) (T := T_Ly) (N := 6) hx hb hts in_Ly hown hK hP 0 rfl rfl 5 (by decide) (hts _ fl_Ly_29) (fun _ h9 => h9) rfl d_Ly_used_1 ?_
  exact W.iret (v := us) hx hb hr (fun t ht hW => ⟨⟨us, (), rfl, hw, trivial⟩, hS.F ht⟩) hS.2.2 d_Ly_used_4
theorem c_Ly_used (l : Launch) (G : cxT) (h : Nat) (a1 : Nat) (a2 : Nat) (a3 : Nat) (n : Nat) (rm : Int32) (cnt : Int32) (us : Int32) (f0 : Nat → Int32) (f1 : Nat → Int32) (f2 : Nat → Int32) : Met l y_Ly_used [.code y_Ly_used b_Ly_used 1 (some .int)] ({ frames := 0, cells := 0, slots := 0, locals := 0 } : Room) (cp G [.ref h] [(h, .inr (0, [.int rm, .ref a1, .ref a2, .ref a3, .int cnt, .int us])), (a1, .inl (G.2.1 0, n, .inl f0)), (a2, .inl (G.2.1 0, n, .inl f1)), (a3, .inl (G.2.1 2, n, .inl f2))]) (va_Qi (fun r (_ : Unit) => (fun r => r = us) r) (fun _ _ => True) (fun _ => False)) 0 0 (fun _ => False) :=
  t_Ly_used l G h a1 a2 a3 n rm cnt us f0 f1 f2 (fun r => r = us) (by
    exact rfl)
def wp_Ly_left (post : Int32 → Prop) (n : Nat) (rm : Int32) (cnt : Int32) (us : Int32) (f0 : Nat → Int32) (f1 : Nat → Int32) (f2 : Nat → Int32) : Prop := post (rm - us)
set_option maxHeartbeats 4000000 in
set_option maxRecDepth 100000 in
theorem t_Ly_left (l : Launch) (G : cxT) (h : Nat) (a1 : Nat) (a2 : Nat) (a3 : Nat) (n : Nat) (rm : Int32) (cnt : Int32) (us : Int32) (f0 : Nat → Int32) (f1 : Nat → Int32) (f2 : Nat → Int32) (post : Int32 → Prop) (hw : wp_Ly_left post n rm cnt us f0 f1 f2) : Met l y_Ly_left [.code y_Ly_left b_Ly_left 1 (some .int)] ({ frames := 0, cells := 0, slots := 0, locals := 0 } : Room) (cp G [.ref h] [(h, .inr (0, [.int rm, .ref a1, .ref a2, .ref a3, .int cnt, .int us])), (a1, .inl (G.2.1 0, n, .inl f0)), (a2, .inl (G.2.1 0, n, .inl f1)), (a3, .inl (G.2.1 2, n, .inl f2))]) (va_Qi (fun r (_ : Unit) => post r) (fun _ _ => True) (fun _ => False)) 0 0 (fun _ => False) := by
  refine Met.ofW (cc := b_Ly_left) (maxL := 1) (ret := (some .int)) (by decide +kernel) rfl ?_
  intro p e s m args below meth c s₁ B hml hv
  obtain ⟨rfl, hcx, hP⟩ := hv
  have hx := B.exec
  have hb := B.bytes
  have hr := B.returns
  have hlocks := B.notSynchronized
  have hown : s.vm.findClass R_Ly = some m.cls := findClass_of_methodNamed B.named
  have hS : va_S (fun _ => False) s.heap s.heap [] := va_S.rf
  have hts := hcx.now.1 [.ref h].toArray
  have hK := hcx.now.2.1
  have hl := lv_entry ([.ref h]) (n := 1) (Nat.le_of_ble_eq_true rfl)
  rw [lg_entry_eq]
  generalize (lg_sl ([.ref h]) ++ List.replicate (1 - (lg_sl ([.ref h])).length) Slot.unset).toArray = ls at hl ⊢
  have hl : lv_has ls 1 [(0, .ref h)] := hl
  unfold wp_Ly_left at hw
  refine lv_aload_n hx hb d_Ly_left_0 rfl (lv_at hl 0 rfl) ?_
  refine va_get (D := G.1) (ci := 0) (v := .int rm) (C := R_Ly) (T := T_Ly) (N := 6) hx hb hts in_Ly hown hK hP 0 rfl rfl 0 (by decide) (hts _ fl_Ly_9) (fun _ h9 => h9) rfl d_Ly_left_1 ?_
  refine lv_aload_n hx hb d_Ly_left_4 rfl (lv_at hl 0 rfl) ?_
  refine va_get (D := G.1) (ci := 0) (v := .int us) (C := R_Ly) (T := T_Ly) (N := 6) hx hb hts in_Ly hown hK hP 0 rfl rfl 5 (by decide) (hts _ fl_Ly_29) (fun _ h9 => h9) rfl d_Ly_left_5 ?_
  refine lv_isub hx hb d_Ly_left_8 ?_
  exact W.iret (v := rm - us) hx hb hr (fun t ht hW => ⟨⟨rm - us, (), rfl, hw, trivial⟩, hS.F ht⟩) hS.2.2 d_Ly_left_9
theorem c_Ly_left (l : Launch) (G : cxT) (h : Nat) (a1 : Nat) (a2 : Nat) (a3 : Nat) (n : Nat) (rm : Int32) (cnt : Int32) (us : Int32) (f0 : Nat → Int32) (f1 : Nat → Int32) (f2 : Nat → Int32) : Met l y_Ly_left [.code y_Ly_left b_Ly_left 1 (some .int)] ({ frames := 0, cells := 0, slots := 0, locals := 0 } : Room) (cp G [.ref h] [(h, .inr (0, [.int rm, .ref a1, .ref a2, .ref a3, .int cnt, .int us])), (a1, .inl (G.2.1 0, n, .inl f0)), (a2, .inl (G.2.1 0, n, .inl f1)), (a3, .inl (G.2.1 2, n, .inl f2))]) (va_Qi (fun r (_ : Unit) => (fun r => r = (rm - us)) r) (fun _ _ => True) (fun _ => False)) 0 0 (fun _ => False) :=
  t_Ly_left l G h a1 a2 a3 n rm cnt us f0 f1 f2 (fun r => r = (rm - us)) (by
    exact rfl)
def wp_Ly_startOf (post : Int32 → Prop) (n : Nat) (rm : Int32) (cnt : Int32) (us : Int32) (f0 : Nat → Int32) (f1 : Nat → Int32) (f2 : Nat → Int32) (k : Int32) : Prop := ((ly_has cnt k = 0 → (post 0)) ∧ (¬ ly_has cnt k = 0 → ((vp_in k n) ∧ (post (f0 k.toNatClampNeg)))))
set_option maxHeartbeats 4000000 in
set_option maxRecDepth 100000 in
theorem t_Ly_startOf (l : Launch) (G : cxT) (h : Nat) (a1 : Nat) (a2 : Nat) (a3 : Nat) (n : Nat) (rm : Int32) (cnt : Int32) (us : Int32) (f0 : Nat → Int32) (f1 : Nat → Int32) (f2 : Nat → Int32) (k : Int32) (post : Int32 → Prop) (hw : wp_Ly_startOf post n rm cnt us f0 f1 f2 k) : Met l y_Ly_startOf [.code y_Ly_startOf b_Ly_startOf 2 (some .int)] ({ frames := 1, cells := 0, slots := 0, locals := 40 } : Room) (cp G [.ref h, .int k] [(h, .inr (0, [.int rm, .ref a1, .ref a2, .ref a3, .int cnt, .int us])), (a1, .inl (G.2.1 0, n, .inl f0)), (a2, .inl (G.2.1 0, n, .inl f1)), (a3, .inl (G.2.1 2, n, .inl f2))]) (va_Qi (fun r (_ : Unit) => post r) (fun _ _ => True) (fun _ => False)) 0 0 (fun _ => False) := by
  refine Met.ofW (cc := b_Ly_startOf) (maxL := 2) (ret := (some .int)) (by decide +kernel) rfl ?_
  intro p e s m args below meth c s₁ B hml hv
  obtain ⟨rfl, hcx, hP⟩ := hv
  have hx := B.exec
  have hb := B.bytes
  have hr := B.returns
  have hlocks := B.notSynchronized
  have hown : s.vm.findClass R_Ly = some m.cls := findClass_of_methodNamed B.named
  have hS : va_S (fun _ => False) s.heap s.heap [] := va_S.rf
  have hts := hcx.now.1 [.ref h, .int k].toArray
  have hK := hcx.now.2.1
  have hl := lv_entry ([.ref h, .int k]) (n := 2) (Nat.le_of_ble_eq_true rfl)
  rw [lg_entry_eq]
  generalize (lg_sl ([.ref h, .int k]) ++ List.replicate (2 - (lg_sl ([.ref h, .int k])).length) Slot.unset).toArray = ls at hl ⊢
  have hl : lv_has ls 2 [(0, .ref h), (1, .int k)] := hl
  unfold wp_Ly_startOf at hw
  refine lv_aload_n hx hb d_Ly_startOf_0 rfl (lv_at hl 0 rfl) ?_
  refine lv_iload_n hx hb d_Ly_startOf_1 rfl (lv_at hl 1 rfl) ?_
  have hPc := hP.sub (ws' := [(h, .inr (0, [.int rm, .ref a1, .ref a2, .ref a3, .int cnt, .int us])), (a1, .inl (G.2.1 0, n, .inl f0)), (a2, .inl (G.2.1 0, n, .inl f1)), (a3, .inl (G.2.1 2, n, .inl f2))]) [0, 1, 2, 3] rfl
  refine pu_i (va_runV (As := [.int k]) (rest := []) ⟨hx, hb, hml, hown, hts⟩ (c_Ly_has l G h a1 a2 a3 n rm cnt us f0 f1 f2 k) (cwV 1 hts (gi_V ml_Ly_32 im_Ly_has se_Ly_has ini_Ly co_Ly_has) rfl rfl rfl (by decide +kernel) ⟨Nat.le_of_ble_eq_true rfl, Nat.le_of_ble_eq_true rfl⟩) ⟨cp_blind, va_recv hK hPc (ci := 0) (q0 := 0) rfl rfl, cp_pre hcx hS hPc⟩ rfl rfl hl.1 rfl (lv_room (Nat.le_of_ble_eq_true rfl)) d_Ly_startOf_2 ⟨Nat.le_of_ble_eq_true rfl, Nat.le_of_ble_eq_true rfl⟩) hS hP (fun H locs hP hS => ?_)
  refine lv_if_eq (tgt := 17) hx hb d_Ly_startOf_5 (by decide) (fun c_1 => ?_) (fun c_1 => ?_)
  · replace hw := hw.1 c_1
    refine lv_iconst (v := 0) hx hb d_Ly_startOf_17 (by decide) ?_
    exact W.iret (v := 0) hx hb hr (fun t ht hW => ⟨⟨0, (), rfl, hw, trivial⟩, hS.F ht⟩) hS.2.2 d_Ly_startOf_18
  · replace hw := hw.2 c_1
    refine lv_aload_n hx hb d_Ly_startOf_8 rfl (lv_at hl 0 rfl) ?_
    refine va_get (D := G.1) (ci := 0) (v := .ref a1) (C := R_Ly) (T := T_Ly) (N := 6) hx hb hts in_Ly hown hK hP 0 rfl rfl 1 (by decide) (hts _ fl_Ly_15) (fun _ h9 => h9) rfl d_Ly_startOf_9 ?_
    refine lv_iload_n hx hb d_Ly_startOf_12 rfl (lv_at hl 1 rfl) ?_
    obtain ⟨h_2, hw⟩ := hw
    refine va_iald hx hb hK hP 1 0 rfl rfl h_2 d_Ly_startOf_13 ?_
    refine lv_goto (tgt := 18) hx hb d_Ly_startOf_14 (by decide) ?_
    exact W.iret (v := f0 k.toNatClampNeg) hx hb hr (fun t ht hW => ⟨⟨f0 k.toNatClampNeg, (), rfl, hw, trivial⟩, hS.F ht⟩) hS.2.2 d_Ly_startOf_18
theorem c_Ly_startOf (l : Launch) (G : cxT) (h : Nat) (a1 : Nat) (a2 : Nat) (a3 : Nat) (n : Nat) (rm : Int32) (cnt : Int32) (us : Int32) (f0 : Nat → Int32) (f1 : Nat → Int32) (f2 : Nat → Int32) (k : Int32) (h0 : cnt.toInt ≤ n) : Met l y_Ly_startOf [.code y_Ly_startOf b_Ly_startOf 2 (some .int)] ({ frames := 1, cells := 0, slots := 0, locals := 40 } : Room) (cp G [.ref h, .int k] [(h, .inr (0, [.int rm, .ref a1, .ref a2, .ref a3, .int cnt, .int us])), (a1, .inl (G.2.1 0, n, .inl f0)), (a2, .inl (G.2.1 0, n, .inl f1)), (a3, .inl (G.2.1 2, n, .inl f2))]) (va_Qi (fun r (_ : Unit) => (fun r => r = (ly_st cnt k f0)) r) (fun _ _ => True) (fun _ => False)) 0 0 (fun _ => False) :=
  t_Ly_startOf l G h a1 a2 a3 n rm cnt us f0 f1 f2 k (fun r => r = (ly_st cnt k f0)) (by
    unfold wp_Ly_startOf ly_st
    exact ⟨fun c1 => by simp [c1], fun c1 => ⟨ly_has_in c1 h0, by simp [c1]⟩⟩)
def wp_Ly_lengthOf (post : Int32 → Prop) (n : Nat) (rm : Int32) (cnt : Int32) (us : Int32) (f0 : Nat → Int32) (f1 : Nat → Int32) (f2 : Nat → Int32) (k : Int32) : Prop := ((ly_has cnt k = 0 → (post (-1))) ∧ (¬ ly_has cnt k = 0 → ((vp_in k n) ∧ (post (f1 k.toNatClampNeg)))))
set_option maxHeartbeats 4000000 in
set_option maxRecDepth 100000 in
theorem t_Ly_lengthOf (l : Launch) (G : cxT) (h : Nat) (a1 : Nat) (a2 : Nat) (a3 : Nat) (n : Nat) (rm : Int32) (cnt : Int32) (us : Int32) (f0 : Nat → Int32) (f1 : Nat → Int32) (f2 : Nat → Int32) (k : Int32) (post : Int32 → Prop) (hw : wp_Ly_lengthOf post n rm cnt us f0 f1 f2 k) : Met l y_Ly_lengthOf [.code y_Ly_lengthOf b_Ly_lengthOf 2 (some .int)] ({ frames := 1, cells := 0, slots := 0, locals := 40 } : Room) (cp G [.ref h, .int k] [(h, .inr (0, [.int rm, .ref a1, .ref a2, .ref a3, .int cnt, .int us])), (a1, .inl (G.2.1 0, n, .inl f0)), (a2, .inl (G.2.1 0, n, .inl f1)), (a3, .inl (G.2.1 2, n, .inl f2))]) (va_Qi (fun r (_ : Unit) => post r) (fun _ _ => True) (fun _ => False)) 0 0 (fun _ => False) := by
  refine Met.ofW (cc := b_Ly_lengthOf) (maxL := 2) (ret := (some .int)) (by decide +kernel) rfl ?_
  intro p e s m args below meth c s₁ B hml hv
  obtain ⟨rfl, hcx, hP⟩ := hv
  have hx := B.exec
  have hb := B.bytes
  have hr := B.returns
  have hlocks := B.notSynchronized
  have hown : s.vm.findClass R_Ly = some m.cls := findClass_of_methodNamed B.named
  have hS : va_S (fun _ => False) s.heap s.heap [] := va_S.rf
  have hts := hcx.now.1 [.ref h, .int k].toArray
  have hK := hcx.now.2.1
  have hl := lv_entry ([.ref h, .int k]) (n := 2) (Nat.le_of_ble_eq_true rfl)
  rw [lg_entry_eq]
  generalize (lg_sl ([.ref h, .int k]) ++ List.replicate (2 - (lg_sl ([.ref h, .int k])).length) Slot.unset).toArray = ls at hl ⊢
  have hl : lv_has ls 2 [(0, .ref h), (1, .int k)] := hl
  unfold wp_Ly_lengthOf at hw
  refine lv_aload_n hx hb d_Ly_lengthOf_0 rfl (lv_at hl 0 rfl) ?_
  refine lv_iload_n hx hb d_Ly_lengthOf_1 rfl (lv_at hl 1 rfl) ?_
  have hPc := hP.sub (ws' := [(h, .inr (0, [.int rm, .ref a1, .ref a2, .ref a3, .int cnt, .int us])), (a1, .inl (G.2.1 0, n, .inl f0)), (a2, .inl (G.2.1 0, n, .inl f1)), (a3, .inl (G.2.1 2, n, .inl f2))]) [0, 1, 2, 3] rfl
  refine pu_i (va_runV (As := [.int k]) (rest := []) ⟨hx, hb, hml, hown, hts⟩ (c_Ly_has l G h a1 a2 a3 n rm cnt us f0 f1 f2 k) (cwV 1 hts (gi_V ml_Ly_32 im_Ly_has se_Ly_has ini_Ly co_Ly_has) rfl rfl rfl (by decide +kernel) ⟨Nat.le_of_ble_eq_true rfl, Nat.le_of_ble_eq_true rfl⟩) ⟨cp_blind, va_recv hK hPc (ci := 0) (q0 := 0) rfl rfl, cp_pre hcx hS hPc⟩ rfl rfl hl.1 rfl (lv_room (Nat.le_of_ble_eq_true rfl)) d_Ly_lengthOf_2 ⟨Nat.le_of_ble_eq_true rfl, Nat.le_of_ble_eq_true rfl⟩) hS hP (fun H locs hP hS => ?_)
  refine lv_if_eq (tgt := 17) hx hb d_Ly_lengthOf_5 (by decide) (fun c_1 => ?_) (fun c_1 => ?_)
  · replace hw := hw.1 c_1
    refine lv_iconst (v := (-1)) hx hb d_Ly_lengthOf_17 (by decide) ?_
    exact W.iret (v := (-1)) hx hb hr (fun t ht hW => ⟨⟨(-1), (), rfl, hw, trivial⟩, hS.F ht⟩) hS.2.2 d_Ly_lengthOf_18
  · replace hw := hw.2 c_1
    refine lv_aload_n hx hb d_Ly_lengthOf_8 rfl (lv_at hl 0 rfl) ?_
    refine va_get (D := G.1) (ci := 0) (v := .ref a2) (C := R_Ly) (T := T_Ly) (N := 6) hx hb hts in_Ly hown hK hP 0 rfl rfl 2 (by decide) (hts _ fl_Ly_19) (fun _ h9 => h9) rfl d_Ly_lengthOf_9 ?_
    refine lv_iload_n hx hb d_Ly_lengthOf_12 rfl (lv_at hl 1 rfl) ?_
    obtain ⟨h_2, hw⟩ := hw
    refine va_iald hx hb hK hP 2 0 rfl rfl h_2 d_Ly_lengthOf_13 ?_
    refine lv_goto (tgt := 18) hx hb d_Ly_lengthOf_14 (by decide) ?_
    exact W.iret (v := f1 k.toNatClampNeg) hx hb hr (fun t ht hW => ⟨⟨f1 k.toNatClampNeg, (), rfl, hw, trivial⟩, hS.F ht⟩) hS.2.2 d_Ly_lengthOf_18
theorem c_Ly_lengthOf (l : Launch) (G : cxT) (h : Nat) (a1 : Nat) (a2 : Nat) (a3 : Nat) (n : Nat) (rm : Int32) (cnt : Int32) (us : Int32) (f0 : Nat → Int32) (f1 : Nat → Int32) (f2 : Nat → Int32) (k : Int32) (h0 : cnt.toInt ≤ n) : Met l y_Ly_lengthOf [.code y_Ly_lengthOf b_Ly_lengthOf 2 (some .int)] ({ frames := 1, cells := 0, slots := 0, locals := 40 } : Room) (cp G [.ref h, .int k] [(h, .inr (0, [.int rm, .ref a1, .ref a2, .ref a3, .int cnt, .int us])), (a1, .inl (G.2.1 0, n, .inl f0)), (a2, .inl (G.2.1 0, n, .inl f1)), (a3, .inl (G.2.1 2, n, .inl f2))]) (va_Qi (fun r (_ : Unit) => (fun r => r = (ly_ln cnt k f1)) r) (fun _ _ => True) (fun _ => False)) 0 0 (fun _ => False) :=
  t_Ly_lengthOf l G h a1 a2 a3 n rm cnt us f0 f1 f2 k (fun r => r = (ly_ln cnt k f1)) (by
    unfold wp_Ly_lengthOf ly_ln
    exact ⟨fun c1 => by simp [c1], fun c1 => ⟨ly_has_in c1 h0, by simp [c1]⟩⟩)
def wp_Ly_endOf (post : Int32 → Prop) (n : Nat) (rm : Int32) (cnt : Int32) (us : Int32) (f0 : Nat → Int32) (f1 : Nat → Int32) (f2 : Nat → Int32) (k : Int32) : Prop := ((ly_has cnt k = 0 → (post us)) ∧ (¬ ly_has cnt k = 0 → ((vp_in k n) ∧ ((vp_in k n) ∧ (post ((f0 k.toNatClampNeg) + (f1 k.toNatClampNeg)))))))
set_option maxHeartbeats 4000000 in
set_option maxRecDepth 100000 in
theorem t_Ly_endOf (l : Launch) (G : cxT) (h : Nat) (a1 : Nat) (a2 : Nat) (a3 : Nat) (n : Nat) (rm : Int32) (cnt : Int32) (us : Int32) (f0 : Nat → Int32) (f1 : Nat → Int32) (f2 : Nat → Int32) (k : Int32) (post : Int32 → Prop) (hw : wp_Ly_endOf post n rm cnt us f0 f1 f2 k) : Met l y_Ly_endOf [.code y_Ly_endOf b_Ly_endOf 2 (some .int)] ({ frames := 1, cells := 0, slots := 0, locals := 40 } : Room) (cp G [.ref h, .int k] [(h, .inr (0, [.int rm, .ref a1, .ref a2, .ref a3, .int cnt, .int us])), (a1, .inl (G.2.1 0, n, .inl f0)), (a2, .inl (G.2.1 0, n, .inl f1)), (a3, .inl (G.2.1 2, n, .inl f2))]) (va_Qi (fun r (_ : Unit) => post r) (fun _ _ => True) (fun _ => False)) 0 0 (fun _ => False) := by
  refine Met.ofW (cc := b_Ly_endOf) (maxL := 2) (ret := (some .int)) (by decide +kernel) rfl ?_
  intro p e s m args below meth c s₁ B hml hv
  obtain ⟨rfl, hcx, hP⟩ := hv
  have hx := B.exec
  have hb := B.bytes
  have hr := B.returns
  have hlocks := B.notSynchronized
  have hown : s.vm.findClass R_Ly = some m.cls := findClass_of_methodNamed B.named
  have hS : va_S (fun _ => False) s.heap s.heap [] := va_S.rf
  have hts := hcx.now.1 [.ref h, .int k].toArray
  have hK := hcx.now.2.1
  have hl := lv_entry ([.ref h, .int k]) (n := 2) (Nat.le_of_ble_eq_true rfl)
  rw [lg_entry_eq]
  generalize (lg_sl ([.ref h, .int k]) ++ List.replicate (2 - (lg_sl ([.ref h, .int k])).length) Slot.unset).toArray = ls at hl ⊢
  have hl : lv_has ls 2 [(0, .ref h), (1, .int k)] := hl
  unfold wp_Ly_endOf at hw
  refine lv_aload_n hx hb d_Ly_endOf_0 rfl (lv_at hl 0 rfl) ?_
  refine lv_iload_n hx hb d_Ly_endOf_1 rfl (lv_at hl 1 rfl) ?_
  have hPc := hP.sub (ws' := [(h, .inr (0, [.int rm, .ref a1, .ref a2, .ref a3, .int cnt, .int us])), (a1, .inl (G.2.1 0, n, .inl f0)), (a2, .inl (G.2.1 0, n, .inl f1)), (a3, .inl (G.2.1 2, n, .inl f2))]) [0, 1, 2, 3] rfl
  refine pu_i (va_runV (As := [.int k]) (rest := []) ⟨hx, hb, hml, hown, hts⟩ (c_Ly_has l G h a1 a2 a3 n rm cnt us f0 f1 f2 k) (cwV 1 hts (gi_V ml_Ly_32 im_Ly_has se_Ly_has ini_Ly co_Ly_has) rfl rfl rfl (by decide +kernel) ⟨Nat.le_of_ble_eq_true rfl, Nat.le_of_ble_eq_true rfl⟩) ⟨cp_blind, va_recv hK hPc (ci := 0) (q0 := 0) rfl rfl, cp_pre hcx hS hPc⟩ rfl rfl hl.1 rfl (lv_room (Nat.le_of_ble_eq_true rfl)) d_Ly_endOf_2 ⟨Nat.le_of_ble_eq_true rfl, Nat.le_of_ble_eq_true rfl⟩) hS hP (fun H locs hP hS => ?_)
  refine lv_if_eq (tgt := 24) hx hb d_Ly_endOf_5 (by decide) (fun c_1 => ?_) (fun c_1 => ?_)
  · replace hw := hw.1 c_1
    refine lv_aload_n hx hb d_Ly_endOf_24 rfl (lv_at hl 0 rfl) ?_
    refine va_get (D := G.1) (ci := 0) (v := .int us) (C := R_Ly) (T := T_Ly) (N := 6) hx hb hts in_Ly hown hK hP 0 rfl rfl 5 (by decide) (hts _ fl_Ly_29) (fun _ h9 => h9) rfl d_Ly_endOf_25 ?_
    exact W.iret (v := us) hx hb hr (fun t ht hW => ⟨⟨us, (), rfl, hw, trivial⟩, hS.F ht⟩) hS.2.2 d_Ly_endOf_28
  · replace hw := hw.2 c_1
    refine lv_aload_n hx hb d_Ly_endOf_8 rfl (lv_at hl 0 rfl) ?_
    refine va_get (D := G.1) (ci := 0) (v := .ref a1) (C := R_Ly) (T := T_Ly) (N := 6) hx hb hts in_Ly hown hK hP 0 rfl rfl 1 (by decide) (hts _ fl_Ly_15) (fun _ h9 => h9) rfl d_Ly_endOf_9 ?_
    refine lv_iload_n hx hb d_Ly_endOf_12 rfl (lv_at hl 1 rfl) ?_
    obtain ⟨h_2, hw⟩ := hw
    refine va_iald hx hb hK hP 1 0 rfl rfl h_2 d_Ly_endOf_13 ?_
    refine lv_aload_n hx hb d_Ly_endOf_14 rfl (lv_at hl 0 rfl) ?_
    refine va_get (D := G.1) (ci := 0) (v := .ref a2) (C := R_Ly) (T := T_Ly) (N := 6) hx hb hts in_Ly hown hK hP 0 rfl rfl 2 (by decide) (hts _ fl_Ly_19) (fun _ h9 => h9) rfl d_Ly_endOf_15 ?_
    refine lv_iload_n hx hb d_Ly_endOf_18 rfl (lv_at hl 1 rfl) ?_
    obtain ⟨h_3, hw⟩ := hw
    refine va_iald hx hb hK hP 2 0 rfl rfl h_3 d_Ly_endOf_19 ?_
    refine lv_iadd hx hb d_Ly_endOf_20 ?_
    refine lv_goto (tgt := 28) hx hb d_Ly_endOf_21 (by decide) ?_
    exact W.iret (v := (f0 k.toNatClampNeg) + (f1 k.toNatClampNeg)) hx hb hr (fun t ht hW => ⟨⟨(f0 k.toNatClampNeg) + (f1 k.toNatClampNeg), (), rfl, hw, trivial⟩, hS.F ht⟩) hS.2.2 d_Ly_endOf_28
theorem c_Ly_endOf (l : Launch) (G : cxT) (h : Nat) (a1 : Nat) (a2 : Nat) (a3 : Nat) (n : Nat) (rm : Int32) (cnt : Int32) (us : Int32) (f0 : Nat → Int32) (f1 : Nat → Int32) (f2 : Nat → Int32) (k : Int32) (h0 : cnt.toInt ≤ n) : Met l y_Ly_endOf [.code y_Ly_endOf b_Ly_endOf 2 (some .int)] ({ frames := 1, cells := 0, slots := 0, locals := 40 } : Room) (cp G [.ref h, .int k] [(h, .inr (0, [.int rm, .ref a1, .ref a2, .ref a3, .int cnt, .int us])), (a1, .inl (G.2.1 0, n, .inl f0)), (a2, .inl (G.2.1 0, n, .inl f1)), (a3, .inl (G.2.1 2, n, .inl f2))]) (va_Qi (fun r (_ : Unit) => (fun r => r = (ly_en cnt us k f0 f1)) r) (fun _ _ => True) (fun _ => False)) 0 0 (fun _ => False) :=
  t_Ly_endOf l G h a1 a2 a3 n rm cnt us f0 f1 f2 k (fun r => r = (ly_en cnt us k f0 f1)) (by
    unfold wp_Ly_endOf ly_en
    exact ⟨fun c1 => by simp [c1], fun c1 => ⟨ly_has_in c1 h0, ly_has_in c1 h0, by simp [c1]⟩⟩)
