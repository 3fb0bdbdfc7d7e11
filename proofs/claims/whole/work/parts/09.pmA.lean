/-! ===== what the helpers answer ===== -/
def ar_fill (f : Nat → Int32) (lo hi : Nat) (v : Int32) : Nat → Int32 := fun j => if lo ≤ j ∧ j < hi then v else f j
def u32 (k : Int32) : Int64 := k.toInt64 &&& 4294967295
def is_ref (r : Int32) : Int32 := if r < (-1) then 0 else 1
def w_of (op fst : Int32) (n : Nat) (f : Nat → Int32) : Int32 := if op < fst then 0 else if op - fst < nI n then f (op - fst).toNatClampNeg else 0
def ext_of (op : Int32) (v : Int64) : Int64 := if op = 44 then (v.toInt32.toInt8.toInt32.toInt64 &&& 4294967295) else if op = 46 then (v.toInt32.toInt16.toInt32.toInt64 &&& 4294967295) else if op = 48 then v.toInt32.toInt8.toInt32.toInt64 else if op = 50 then v.toInt32.toInt16.toInt32.toInt64 else if op = 52 then v.toInt32.toInt64 else v
theorem w_of_in {op fst : Int32} {n : Nat} (h1 : ¬ op < fst) (h2 : op - fst < nI n) (hf : 0 ≤ fst.toInt) (hn : n < 2 ^ 31) : vp_in (op - fst) n := by
  rw [Int32.lt_iff_toInt_lt] at h1
  have e : (op - fst).toInt = op.toInt - fst.toInt := by
    rw [Int32.toInt_sub]
    have h3 := Int32.toInt_lt op
    have h4 := Int32.le_toInt fst
    have h5 := Int32.le_toInt op
    have h6 := Int32.toInt_lt fst
    exact Int.bmod_eq_of_le (by omega) (by omega)
  rw [vp_in_iff]
  rw [Int32.lt_iff_toInt_lt, nI_toInt hn] at h2
  omega

def wp_Ar_rangeCheck (post : Prop) (ln : Int32) (lo : Int32) (hi : Int32) : Prop := ((lo ≤ hi → (((0 ≤ lo → (((hi ≤ ln → (post)) ∧ (¬ hi ≤ ln → (False))))) ∧ (¬ 0 ≤ lo → (False))))) ∧ (¬ lo ≤ hi → (False)))
set_option maxHeartbeats 4000000 in
set_option maxRecDepth 100000 in
theorem t_Ar_rangeCheck (l : Launch) (G : cxT) (ln : Int32) (lo : Int32) (hi : Int32) (post : Prop) (hw : wp_Ar_rangeCheck post ln lo hi) : Met l y_Ar_rangeCheck [.code y_Ar_rangeCheck b_Ar_rangeCheck 3 none] ({ frames := 0, cells := 0, slots := 0, locals := 0 } : Room) (cp G [.int ln, .int lo, .int hi] []) (va_Qv (fun (_ : Unit) => post) (fun _ _ => True) (fun _ => False)) 0 0 (fun _ => False) := by
  refine Met.ofW (cc := b_Ar_rangeCheck) (maxL := 3) (ret := none) (by decide +kernel) rfl ?_
  intro p e s m args below meth c s₁ B hml hv
  obtain ⟨rfl, hcx, hP⟩ := hv
  have hx := B.exec
  have hb := B.bytes
  have hr := B.returns
  have hlocks := B.notSynchronized
  have hown : s.vm.findClass R_Ar = some m.cls := findClass_of_methodNamed B.named
  have hS : va_S (fun _ => False) s.heap s.heap [] := va_S.rf
  have hts := hcx.now.1 [.int ln, .int lo, .int hi].toArray
  have hK := hcx.now.2.1
  have hl := lv_entry ([.int ln, .int lo, .int hi]) (n := 3) (Nat.le_of_ble_eq_true rfl)
  rw [lg_entry_eq]
  generalize (lg_sl ([.int ln, .int lo, .int hi]) ++ List.replicate (3 - (lg_sl ([.int ln, .int lo, .int hi])).length) Slot.unset).toArray = ls at hl ⊢
  have hl : lv_has ls 3 [(0, .int ln), (1, .int lo), (2, .int hi)] := hl
  unfold wp_Ar_rangeCheck at hw
  refine lv_iload_n hx hb d_Ar_rangeCheck_0 rfl (lv_at hl 1 rfl) ?_
  refine lv_iload_n hx hb d_Ar_rangeCheck_1 rfl (lv_at hl 2 rfl) ?_
  refine lv_icmp_le (tgt := 46) hx hb d_Ar_rangeCheck_2 (by decide) (fun c_1 => ?_) (fun c_1 => ?_)
  · replace hw := hw.1 c_1
    refine lv_iload_n hx hb d_Ar_rangeCheck_46 rfl (lv_at hl 1 rfl) ?_
    refine lv_if_ge (tgt := 59) hx hb d_Ar_rangeCheck_47 (by decide) (fun c_2 => ?_) (fun c_2 => ?_)
    · replace hw := hw.1 c_2
      refine lv_iload_n hx hb d_Ar_rangeCheck_59 rfl (lv_at hl 2 rfl) ?_
      refine lv_iload_n hx hb d_Ar_rangeCheck_60 rfl (lv_at hl 0 rfl) ?_
      refine lv_icmp_le (tgt := 73) hx hb d_Ar_rangeCheck_61 (by decide) (fun c_3 => ?_) (fun c_3 => ?_)
      · replace hw := hw.1 c_3
        exact W.vret hx hb hr (fun t ht hW => ⟨⟨(), rfl, hw, trivial⟩, hS.F ht⟩) hS.2.2 d_Ar_rangeCheck_73
      · replace hw := hw.2 c_3
        exact hw.elim
    · replace hw := hw.2 c_2
      exact hw.elim
  · replace hw := hw.2 c_1
    exact hw.elim
theorem c_Ar_rangeCheck (l : Launch) (G : cxT) (ln : Int32) (lo : Int32) (hi : Int32) (h0 : lo ≤ hi) (h1 : 0 ≤ lo) (h2 : hi ≤ ln) : Met l y_Ar_rangeCheck [.code y_Ar_rangeCheck b_Ar_rangeCheck 3 none] ({ frames := 0, cells := 0, slots := 0, locals := 0 } : Room) (cp G [.int ln, .int lo, .int hi] []) (va_Qv (fun (_ : Unit) => True) (fun _ _ => True) (fun _ => False)) 0 0 (fun _ => False) :=
  t_Ar_rangeCheck l G ln lo hi True (by
    unfold wp_Ar_rangeCheck
    exact ⟨fun _ => ⟨fun _ => ⟨fun _ => trivial, fun c => c h2⟩, fun c => c h1⟩, fun c => c h0⟩)
def wp_Ar_fillB_10 (post : (Nat → Int32) → Prop) (n : Nat) (hi : Int32) (vv : Int32) : Nat → Int32 → (Nat → Int32) → Prop
  | 0 => fun _ _ => False
  | n9 + 1 => fun x4 f => ((hi ≤ x4 → (post f)) ∧ (¬ hi ≤ x4 → ((vp_in x4 n) ∧ ∀ a_103 : Nat → Int32, a_103 = upd f x4.toNatClampNeg (vp_nar .byte vv) → (∀ x_104 : Int32, x_104 = x4 + 1 → (wp_Ar_fillB_10 post n hi vv n9 x_104 a_103)))))
set_option maxHeartbeats 4000000 in
set_option maxRecDepth 100000 in
theorem l_Ar_fillB_10 {p : Program} {l : Launch} {e : Env} {s : State} {m : MethodId} {args : Array Value} {below : List Frame} {meth : Method} {c : Code} (G : cxT) (aa : Nat) (A : Nat → Prop) (post : (Nat → Int32) → Prop) (n : Nat) (hi : Int32) (vv : Int32) (hx : p.tables.exec = Jvm.exec) (hb : c.code = b_Ar_fillB) (hr : meth.sig.returnType = none) (hml : c.maxLocals = 5) (hown : s.vm.findClass R_Ar = some m.cls) (hlocks : meth.locks = false) (hcx : cx G A s) (hA : ∀ q : Nat, s.heap.size ≤ q → A q) :
    ∀ (n9 : Nat) (x4 : Int32) (f : Nat → Int32), wp_Ar_fillB_10 post n hi vv n9 x4 f → ∀ (H : Heap) (locs : List Loc), va_P G.1 vwC [(aa, .inl (G.2.1 1, n, .inl f))] H → va_D A [(aa, .inl (G.2.1 1, n, .inl f))] → va_S A s.heap H locs → ∀ (ls : Array Slot), lv_has ls 5 [(0, .ref aa), (2, .int hi), (3, .int vv), (4, .int x4)] → W p l e (headSpec [.code y_Ar_fillB b_Ar_fillB 5 none] ({ frames := 1, cells := 0, slots := 0, locals := 40 } : Room)).room s m args below meth c H locs 0 0 (MQ below (va_Qv post (fun u t => va_P G.1 vwC [(aa, .inl (G.2.1 1, n, .inl u))] t.heap) A) args s 0 0 A) (F0 m 10 ls []) := by
  have hts := hcx.now.1 args
  have hK := hcx.now.2.1
  intro n9
  induction n9 with
  | zero =>
    intro x4 f hw
    exact hw.elim
  | succ n9 ih =>
    intro x4 f hw H locs hP hD hS ls hl
    unfold wp_Ar_fillB_10 at hw
    refine lv_iload hx hb d_Ar_fillB_10 (lv_at hl 3 rfl) ?_
    refine lv_iload_n hx hb d_Ar_fillB_12 rfl (lv_at hl 1 rfl) ?_
    refine lv_icmp_ge (tgt := 27) hx hb d_Ar_fillB_13 (by decide) (fun c_101 => ?_) (fun c_101 => ?_)
    · replace hw := hw.1 c_101
      exact W.vret hx hb hr (fun t ht hW => ⟨⟨f, rfl, hw, by have h9 := hP; rw [← ht] at h9; exact h9⟩, hS.F ht⟩) hS.2.2 d_Ar_fillB_27
    · replace hw := hw.2 c_101
      refine lv_aload_n hx hb d_Ar_fillB_16 rfl (lv_at hl 0 rfl) ?_
      refine lv_iload hx hb d_Ar_fillB_17 (lv_at hl 3 rfl) ?_
      refine lv_iload_n hx hb d_Ar_fillB_19 rfl (lv_at hl 2 rfl) ?_
      obtain ⟨h_102, hw⟩ := hw
      obtain ⟨a_103, ea_103⟩ : ∃ z, z = upd f x4.toNatClampNeg (vp_nar .byte vv) := ⟨_, rfl⟩
      replace hw := hw a_103 ea_103
      refine va_bast hx hb hK hP hD hS 0 1 rfl rfl h_102 d_Ar_fillB_20 (fun H locs hP hD hS => ?_)
      rw [← ea_103] at hP hD
      have hP : va_P G.1 vwC [(aa, .inl (G.2.1 1, n, .inl a_103))] H := hP
      have hD : va_D A [(aa, .inl (G.2.1 1, n, .inl a_103))] := hD
      obtain ⟨x_104, ex_104⟩ : ∃ y : Int32, y = x4 + 1 := ⟨_, rfl⟩
      replace hw := hw x_104 ex_104
      refine lv_iinc (v := x_104) (lv' := [(4, .int x_104), (0, .ref aa), (2, .int hi), (3, .int vv)]) hx hb d_Ar_fillB_21 hl (k := 3) rfl (by rw [ex_104]; rfl) (by decide) rfl (fun ls hl => ?_)
      refine lv_goto (tgt := 10) hx hb d_Ar_fillB_24 (by decide) ?_
      exact ih x_104 a_103 hw _ _ hP hD hS ls (lv_sub hl [1, 2, 3, 0] rfl)
def wp_Ar_fillB (post : (Nat → Int32) → Prop) (n : Nat) (f : Nat → Int32) (lo : Int32) (hi : Int32) (vv : Int32) : Prop := (lo ≤ hi) ∧ ((0 ≤ lo) ∧ ((hi ≤ (nI n)) ∧ (∃ n9 : Nat, wp_Ar_fillB_10 post n hi vv n9 lo f)))
set_option maxHeartbeats 4000000 in
set_option maxRecDepth 100000 in
theorem t_Ar_fillB (l : Launch) (G : cxT) (aa : Nat) (n : Nat) (f : Nat → Int32) (lo : Int32) (hi : Int32) (vv : Int32) (sz : Nat) (post : (Nat → Int32) → Prop) (hw : wp_Ar_fillB post n f lo hi vv) : Met l y_Ar_fillB [.code y_Ar_fillB b_Ar_fillB 5 none] ({ frames := 1, cells := 0, slots := 0, locals := 40 } : Room) (cm G [.ref aa, .int lo, .int hi, .int vv] [(aa, .inl (G.2.1 1, n, .inl f))] sz) (va_Qv post (fun u t => va_P G.1 vwC [(aa, .inl (G.2.1 1, n, .inl u))] t.heap) (va_A [(aa, .inl (G.2.1 1, n, .inl f))] sz)) 0 0 (va_A [(aa, .inl (G.2.1 1, n, .inl f))] sz) := by
  refine Met.ofW (cc := b_Ar_fillB) (maxL := 5) (ret := none) (by decide +kernel) rfl ?_
  intro p e s m args below meth c s₁ B hml hv
  obtain ⟨rfl, hsz, hcx, hP, hD0⟩ := hv
  have hx := B.exec
  have hb := B.bytes
  have hr := B.returns
  have hlocks := B.notSynchronized
  have hown : s.vm.findClass R_Ar = some m.cls := findClass_of_methodNamed B.named
  subst hsz
  have hD := hD0.self (sz := s.heap.size)
  generalize hAe : va_A [(aa, .inl (G.2.1 1, n, .inl f))] s.heap.size = A at hD hcx ⊢
  have hA : ∀ q : Nat, s.heap.size ≤ q → A q := fun q h => by rw [← hAe]; exact Or.inr h
  have hS : va_S A s.heap s.heap [] := va_S.rf
  have hts := hcx.now.1 [.ref aa, .int lo, .int hi, .int vv].toArray
  have hK := hcx.now.2.1
  have hl := lv_entry ([.ref aa, .int lo, .int hi, .int vv]) (n := 5) (Nat.le_of_ble_eq_true rfl)
  rw [lg_entry_eq]
  generalize (lg_sl ([.ref aa, .int lo, .int hi, .int vv]) ++ List.replicate (5 - (lg_sl ([.ref aa, .int lo, .int hi, .int vv])).length) Slot.unset).toArray = ls at hl ⊢
  have hl : lv_has ls 5 [(0, .ref aa), (1, .int lo), (2, .int hi), (3, .int vv)] := hl
  unfold wp_Ar_fillB at hw
  refine lv_aload_n hx hb d_Ar_fillB_0 rfl (lv_at hl 0 rfl) ?_
  refine va_alen (v := nI n) hx hb hK hP 0 1 rfl rfl rfl d_Ar_fillB_1 ?_
  refine lv_iload_n hx hb d_Ar_fillB_2 rfl (lv_at hl 1 rfl) ?_
  refine lv_iload_n hx hb d_Ar_fillB_3 rfl (lv_at hl 2 rfl) ?_
  obtain ⟨h_1, hw⟩ := hw
  obtain ⟨h_2, hw⟩ := hw
  obtain ⟨h_3, hw⟩ := hw
  have hPc := hP.sub (ws' := []) [] rfl
  refine pu_v (va_runS (As := [.int (nI n), .int lo, .int hi]) (rest := []) ⟨hx, hb, hml, hown, hts⟩ (c_Ar_rangeCheck l G (nI n) lo hi h_1 h_2 h_3) (va_cwS 3 hts (gi_S ml_Ar_13 sm_Ar_rangeCheck ini_Ar co_Ar_rangeCheck) rfl rfl rfl (by decide +kernel) ⟨Nat.le_of_ble_eq_true rfl, Nat.le_of_ble_eq_true rfl⟩) ⟨cp_blind, cp_pre hcx hS hPc⟩ rfl rfl hl.1 rfl (lv_room (Nat.le_of_ble_eq_true rfl)) d_Ar_fillB_4 ⟨Nat.le_of_ble_eq_true rfl, Nat.le_of_ble_eq_true rfl⟩) hS hP (fun H locs hP hS => ?_)
  refine lv_iload_n hx hb d_Ar_fillB_7 rfl (lv_at hl 1 rfl) ?_
  refine lv_istore (lv' := [(4, .int lo), (0, .ref aa), (1, .int lo), (2, .int hi), (3, .int vv)]) hx hb d_Ar_fillB_8 hl (by decide) rfl (fun ls hl => ?_)
  obtain ⟨n9, hw⟩ := hw
  exact l_Ar_fillB_10 G aa A post n hi vv hx hb hr hml hown hlocks hcx hA n9 lo f hw _ _ hP hD hS ls (lv_sub hl [1, 3, 4, 0] rfl)
theorem ar_fillB_loop {post : (Nat → Int32) → Prop} {n a b : Nat} {v : Int32} (g : Nat → Int32) (h1 : a ≤ b) (h2 : b ≤ n) (hn : n < 2 ^ 31) (hv : vp_nar .byte v = v) (H : post (ar_fill g a b v)) : ∃ m, wp_Ar_fillB_10 post n (nI b) v m (nI a) g := by
  refine Exists.elim (pk_loop (fun m i f => wp_Ar_fillB_10 post n (nI b) v m (nI i) f) (fun i f => a ≤ i ∧ f = ar_fill g a i v) b a g h1 ⟨Nat.le_refl _, ?_⟩ ?_ ?_) (fun m hm => ⟨m, hm⟩)
  · funext j
    unfold ar_fill
    rw [if_neg (by omega)]
  · intro m f hf
    unfold wp_Ar_fillB_10
    refine ⟨fun _ => ?_, fun h => absurd (nI_le (Nat.le_refl b) (by omega)) h⟩
    rw [hf.2]
    exact H
  · intro m i f hi hf ih
    unfold wp_Ar_fillB_10
    refine ⟨fun h => absurd h (nI_ge hi (by omega)), fun _ => ⟨vp_in_nI (by omega) hn, fun x ex y ey => ?_⟩⟩
    rw [nI_clamp (by omega)] at ex
    rw [ey, nI_1]
    refine ih _ ⟨by omega, ?_⟩
    rw [ex, hf.2, hv]
    funext j
    unfold ar_fill upd
    by_cases hj : j = i
    · subst hj
      rw [if_pos rfl, if_pos (by omega)]
    · rw [if_neg hj]
      dsimp only
      by_cases q : a ≤ j ∧ j < i
      · rw [if_pos q, if_pos (by omega)]
      · rw [if_neg q, if_neg (by omega)]

theorem c_Ar_fillB (l : Launch) (G : cxT) (aa : Nat) (n : Nat) (f : Nat → Int32) (lo : Int32) (hi : Int32) (vv : Int32) (sz : Nat) (h0 : ¬ lo < 0) (h1 : lo ≤ hi) (h2 : hi ≤ nI n) (h3 : n < 2147483648) (h4 : vp_nar .byte vv = vv) : Met l y_Ar_fillB [.code y_Ar_fillB b_Ar_fillB 5 none] ({ frames := 1, cells := 0, slots := 0, locals := 40 } : Room) (cm G [.ref aa, .int lo, .int hi, .int vv] [(aa, .inl (G.2.1 1, n, .inl f))] sz) (va_Qv (fun u => u = ar_fill f lo.toNatClampNeg hi.toNatClampNeg vv) (fun u t => va_P G.1 vwC [(aa, .inl (G.2.1 1, n, .inl u))] t.heap) (va_A [(aa, .inl (G.2.1 1, n, .inl f))] sz)) 0 0 (va_A [(aa, .inl (G.2.1 1, n, .inl f))] sz) :=
  t_Ar_fillB l G aa n f lo hi vv sz (fun u => u = ar_fill f lo.toNatClampNeg hi.toNatClampNeg vv) (by
    unfold wp_Ar_fillB
    obtain ⟨a, ha, rfl⟩ := nI_of h0
    obtain ⟨b, hb, rfl⟩ := nI_of (x := hi) (by rw [Int32.lt_iff_toInt_lt]; rw [Int32.le_iff_toInt_le, nI_toInt ha] at h1; have e : (0 : Int32).toInt = 0 := rfl; omega)
    rw [nI_leI ha hb] at h1
    rw [nI_leI hb h3] at h2
    refine ⟨nI_le h1 hb, nI_pos' ha, nI_le h2 h3, ?_⟩
    rw [nI_clamp ha, nI_clamp hb]
    exact ar_fillB_loop f h1 h2 h3 h4 rfl)
def wp_Ar_fillI_10 (post : (Nat → Int32) → Prop) (n : Nat) (hi : Int32) (vv : Int32) : Nat → Int32 → (Nat → Int32) → Prop
  | 0 => fun _ _ => False
  | n9 + 1 => fun x4 f => ((hi ≤ x4 → (post f)) ∧ (¬ hi ≤ x4 → ((vp_in x4 n) ∧ ∀ a_103 : Nat → Int32, a_103 = upd f x4.toNatClampNeg vv → (∀ x_104 : Int32, x_104 = x4 + 1 → (wp_Ar_fillI_10 post n hi vv n9 x_104 a_103)))))
set_option maxHeartbeats 4000000 in
set_option maxRecDepth 100000 in
theorem l_Ar_fillI_10 {p : Program} {l : Launch} {e : Env} {s : State} {m : MethodId} {args : Array Value} {below : List Frame} {meth : Method} {c : Code} (G : cxT) (aa : Nat) (A : Nat → Prop) (post : (Nat → Int32) → Prop) (n : Nat) (hi : Int32) (vv : Int32) (hx : p.tables.exec = Jvm.exec) (hb : c.code = b_Ar_fillI) (hr : meth.sig.returnType = none) (hml : c.maxLocals = 5) (hown : s.vm.findClass R_Ar = some m.cls) (hlocks : meth.locks = false) (hcx : cx G A s) (hA : ∀ q : Nat, s.heap.size ≤ q → A q) :
    ∀ (n9 : Nat) (x4 : Int32) (f : Nat → Int32), wp_Ar_fillI_10 post n hi vv n9 x4 f → ∀ (H : Heap) (locs : List Loc), va_P G.1 vwC [(aa, .inl (G.2.1 0, n, .inl f))] H → va_D A [(aa, .inl (G.2.1 0, n, .inl f))] → va_S A s.heap H locs → ∀ (ls : Array Slot), lv_has ls 5 [(0, .ref aa), (2, .int hi), (3, .int vv), (4, .int x4)] → W p l e (headSpec [.code y_Ar_fillI b_Ar_fillI 5 none] ({ frames := 1, cells := 0, slots := 0, locals := 40 } : Room)).room s m args below meth c H locs 0 0 (MQ below (va_Qv post (fun u t => va_P G.1 vwC [(aa, .inl (G.2.1 0, n, .inl u))] t.heap) A) args s 0 0 A) (F0 m 10 ls []) := by
  have hts := hcx.now.1 args
  have hK := hcx.now.2.1
  intro n9
  induction n9 with
  | zero =>
    intro x4 f hw
    exact hw.elim
  | succ n9 ih =>
    intro x4 f hw H locs hP hD hS ls hl
    unfold wp_Ar_fillI_10 at hw
    refine lv_iload hx hb d_Ar_fillI_10 (lv_at hl 3 rfl) ?_
    refine lv_iload_n hx hb d_Ar_fillI_12 rfl (lv_at hl 1 rfl) ?_
    refine lv_icmp_ge (tgt := 27) hx hb d_Ar_fillI_13 (by decide) (fun c_101 => ?_) (fun c_101 => ?_)
    · replace hw := hw.1 c_101
      exact W.vret hx hb hr (fun t ht hW => ⟨⟨f, rfl, hw, by have h9 := hP; rw [← ht] at h9; exact h9⟩, hS.F ht⟩) hS.2.2 d_Ar_fillI_27
    · replace hw := hw.2 c_101
      refine lv_aload_n hx hb d_Ar_fillI_16 rfl (lv_at hl 0 rfl) ?_
      refine lv_iload hx hb d_Ar_fillI_17 (lv_at hl 3 rfl) ?_
      refine lv_iload_n hx hb d_Ar_fillI_19 rfl (lv_at hl 2 rfl) ?_
      obtain ⟨h_102, hw⟩ := hw
      obtain ⟨a_103, ea_103⟩ : ∃ z, z = upd f x4.toNatClampNeg vv := ⟨_, rfl⟩
      replace hw := hw a_103 ea_103
      refine va_iast hx hb hK hP hD hS 0 0 rfl rfl h_102 d_Ar_fillI_20 (fun H locs hP hD hS => ?_)
      rw [← ea_103] at hP hD
      have hP : va_P G.1 vwC [(aa, .inl (G.2.1 0, n, .inl a_103))] H := hP
      have hD : va_D A [(aa, .inl (G.2.1 0, n, .inl a_103))] := hD
      obtain ⟨x_104, ex_104⟩ : ∃ y : Int32, y = x4 + 1 := ⟨_, rfl⟩
      replace hw := hw x_104 ex_104
      refine lv_iinc (v := x_104) (lv' := [(4, .int x_104), (0, .ref aa), (2, .int hi), (3, .int vv)]) hx hb d_Ar_fillI_21 hl (k := 3) rfl (by rw [ex_104]; rfl) (by decide) rfl (fun ls hl => ?_)
      refine lv_goto (tgt := 10) hx hb d_Ar_fillI_24 (by decide) ?_
      exact ih x_104 a_103 hw _ _ hP hD hS ls (lv_sub hl [1, 2, 3, 0] rfl)
def wp_Ar_fillI (post : (Nat → Int32) → Prop) (n : Nat) (f : Nat → Int32) (lo : Int32) (hi : Int32) (vv : Int32) : Prop := (lo ≤ hi) ∧ ((0 ≤ lo) ∧ ((hi ≤ (nI n)) ∧ (∃ n9 : Nat, wp_Ar_fillI_10 post n hi vv n9 lo f)))
set_option maxHeartbeats 4000000 in
set_option maxRecDepth 100000 in
theorem t_Ar_fillI (l : Launch) (G : cxT) (aa : Nat) (n : Nat) (f : Nat → Int32) (lo : Int32) (hi : Int32) (vv : Int32) (sz : Nat) (post : (Nat → Int32) → Prop) (hw : wp_Ar_fillI post n f lo hi vv) : Met l y_Ar_fillI [.code y_Ar_fillI b_Ar_fillI 5 none] ({ frames := 1, cells := 0, slots := 0, locals := 40 } : Room) (cm G [.ref aa, .int lo, .int hi, .int vv] [(aa, .inl (G.2.1 0, n, .inl f))] sz) (va_Qv post (fun u t => va_P G.1 vwC [(aa, .inl (G.2.1 0, n, .inl u))] t.heap) (va_A [(aa, .inl (G.2.1 0, n, .inl f))] sz)) 0 0 (va_A [(aa, .inl (G.2.1 0, n, .inl f))] sz) := by
  refine Met.ofW (cc := b_Ar_fillI) (maxL := 5) (ret := none) (by decide +kernel) rfl ?_
  intro p e s m args below meth c s₁ B hml hv
  obtain ⟨rfl, hsz, hcx, hP, hD0⟩ := hv
  have hx := B.exec
  have hb := B.bytes
  have hr := B.returns
  have hlocks := B.notSynchronized
  have hown : s.vm.findClass R_Ar = some m.cls := findClass_of_methodNamed B.named
  subst hsz
  have hD := hD0.self (sz := s.heap.size)
  generalize hAe : va_A [(aa, .inl (G.2.1 0, n, .inl f))] s.heap.size = A at hD hcx ⊢
  have hA : ∀ q : Nat, s.heap.size ≤ q → A q := fun q h => by rw [← hAe]; exact Or.inr h
  have hS : va_S A s.heap s.heap [] := va_S.rf
  have hts := hcx.now.1 [.ref aa, .int lo, .int hi, .int vv].toArray
  have hK := hcx.now.2.1
  have hl := lv_entry ([.ref aa, .int lo, .int hi, .int vv]) (n := 5) (Nat.le_of_ble_eq_true rfl)
  rw [lg_entry_eq]
  generalize (lg_sl ([.ref aa, .int lo, .int hi, .int vv]) ++ List.replicate (5 - (lg_sl ([.ref aa, .int lo, .int hi, .int vv])).length) Slot.unset).toArray = ls at hl ⊢
  have hl : lv_has ls 5 [(0, .ref aa), (1, .int lo), (2, .int hi), (3, .int vv)] := hl
  unfold wp_Ar_fillI at hw
  refine lv_aload_n hx hb d_Ar_fillI_0 rfl (lv_at hl 0 rfl) ?_
  refine va_alen (v := nI n) hx hb hK hP 0 0 rfl rfl rfl d_Ar_fillI_1 ?_
  refine lv_iload_n hx hb d_Ar_fillI_2 rfl (lv_at hl 1 rfl) ?_
  refine lv_iload_n hx hb d_Ar_fillI_3 rfl (lv_at hl 2 rfl) ?_
  obtain ⟨h_1, hw⟩ := hw
  obtain ⟨h_2, hw⟩ := hw
  obtain ⟨h_3, hw⟩ := hw
  have hPc := hP.sub (ws' := []) [] rfl
  refine pu_v (va_runS (As := [.int (nI n), .int lo, .int hi]) (rest := []) ⟨hx, hb, hml, hown, hts⟩ (c_Ar_rangeCheck l G (nI n) lo hi h_1 h_2 h_3) (va_cwS 3 hts (gi_S ml_Ar_13 sm_Ar_rangeCheck ini_Ar co_Ar_rangeCheck) rfl rfl rfl (by decide +kernel) ⟨Nat.le_of_ble_eq_true rfl, Nat.le_of_ble_eq_true rfl⟩) ⟨cp_blind, cp_pre hcx hS hPc⟩ rfl rfl hl.1 rfl (lv_room (Nat.le_of_ble_eq_true rfl)) d_Ar_fillI_4 ⟨Nat.le_of_ble_eq_true rfl, Nat.le_of_ble_eq_true rfl⟩) hS hP (fun H locs hP hS => ?_)
  refine lv_iload_n hx hb d_Ar_fillI_7 rfl (lv_at hl 1 rfl) ?_
  refine lv_istore (lv' := [(4, .int lo), (0, .ref aa), (1, .int lo), (2, .int hi), (3, .int vv)]) hx hb d_Ar_fillI_8 hl (by decide) rfl (fun ls hl => ?_)
  obtain ⟨n9, hw⟩ := hw
  exact l_Ar_fillI_10 G aa A post n hi vv hx hb hr hml hown hlocks hcx hA n9 lo f hw _ _ hP hD hS ls (lv_sub hl [1, 3, 4, 0] rfl)
theorem ar_fillI_loop {post : (Nat → Int32) → Prop} {n a b : Nat} {v : Int32} (g : Nat → Int32) (h1 : a ≤ b) (h2 : b ≤ n) (hn : n < 2 ^ 31) (H : post (ar_fill g a b v)) : ∃ m, wp_Ar_fillI_10 post n (nI b) v m (nI a) g := by
  refine Exists.elim (pk_loop (fun m i f => wp_Ar_fillI_10 post n (nI b) v m (nI i) f) (fun i f => a ≤ i ∧ f = ar_fill g a i v) b a g h1 ⟨Nat.le_refl _, ?_⟩ ?_ ?_) (fun m hm => ⟨m, hm⟩)
  · funext j
    unfold ar_fill
    rw [if_neg (by omega)]
  · intro m f hf
    unfold wp_Ar_fillI_10
    refine ⟨fun _ => ?_, fun h => absurd (nI_le (Nat.le_refl b) (by omega)) h⟩
    rw [hf.2]
    exact H
  · intro m i f hi hf ih
    unfold wp_Ar_fillI_10
    refine ⟨fun h => absurd h (nI_ge hi (by omega)), fun _ => ⟨vp_in_nI (by omega) hn, fun x ex y ey => ?_⟩⟩
    rw [nI_clamp (by omega)] at ex
    rw [ey, nI_1]
    refine ih _ ⟨by omega, ?_⟩
    rw [ex, hf.2]
    funext j
    unfold ar_fill upd
    by_cases hj : j = i
    · subst hj
      rw [if_pos rfl, if_pos (by omega)]
    · rw [if_neg hj]
      dsimp only
      by_cases q : a ≤ j ∧ j < i
      · rw [if_pos q, if_pos (by omega)]
      · rw [if_neg q, if_neg (by omega)]

theorem c_Ar_fillI (l : Launch) (G : cxT) (aa : Nat) (n : Nat) (f : Nat → Int32) (lo : Int32) (hi : Int32) (vv : Int32) (sz : Nat) (h0 : ¬ lo < 0) (h1 : lo ≤ hi) (h2 : hi ≤ nI n) (h3 : n < 2147483648) : Met l y_Ar_fillI [.code y_Ar_fillI b_Ar_fillI 5 none] ({ frames := 1, cells := 0, slots := 0, locals := 40 } : Room) (cm G [.ref aa, .int lo, .int hi, .int vv] [(aa, .inl (G.2.1 0, n, .inl f))] sz) (va_Qv (fun u => u = ar_fill f lo.toNatClampNeg hi.toNatClampNeg vv) (fun u t => va_P G.1 vwC [(aa, .inl (G.2.1 0, n, .inl u))] t.heap) (va_A [(aa, .inl (G.2.1 0, n, .inl f))] sz)) 0 0 (va_A [(aa, .inl (G.2.1 0, n, .inl f))] sz) :=
  t_Ar_fillI l G aa n f lo hi vv sz (fun u => u = ar_fill f lo.toNatClampNeg hi.toNatClampNeg vv) (by
    unfold wp_Ar_fillI
    obtain ⟨a, ha, rfl⟩ := nI_of h0
    obtain ⟨b, hb, rfl⟩ := nI_of (x := hi) (by rw [Int32.lt_iff_toInt_lt]; rw [Int32.le_iff_toInt_le, nI_toInt ha] at h1; have e : (0 : Int32).toInt = 0 := rfl; omega)
    rw [nI_leI ha hb] at h1
    rw [nI_leI hb h3] at h2
    refine ⟨nI_le h1 hb, nI_pos' ha, nI_le h2 h3, ?_⟩
    rw [nI_clamp ha, nI_clamp hb]
    exact ar_fillI_loop f h1 h2 h3 rfl)
def wp_Pm_unsigned (post : Int64 → Prop) (k : Int32) : Prop := post (k.toInt64 &&& 4294967295)
set_option maxHeartbeats 4000000 in
set_option maxRecDepth 100000 in
theorem t_Pm_unsigned (l : Launch) (G : cxT) (k : Int32) (post : Int64 → Prop) (hw : wp_Pm_unsigned post k) : Met l y_Pm_unsigned [.code y_Pm_unsigned b_Pm_unsigned 1 (some .long)] ({ frames := 0, cells := 0, slots := 0, locals := 0 } : Room) (cp G [.int k] []) (va_Ql (fun r (_ : Unit) => post r) (fun _ _ => True) (fun _ => False)) 0 0 (fun _ => False) := by
  refine Met.ofW (cc := b_Pm_unsigned) (maxL := 1) (ret := (some .long)) (by decide +kernel) rfl ?_
  intro p e s m args below meth c s₁ B hml hv
  obtain ⟨rfl, hcx, hP⟩ := hv
  have hx := B.exec
  have hb := B.bytes
  have hr := B.returns
  have hlocks := B.notSynchronized
  have hown : s.vm.findClass R_Pm = some m.cls := findClass_of_methodNamed B.named
  have hS : va_S (fun _ => False) s.heap s.heap [] := va_S.rf
  have hts := hcx.now.1 [.int k].toArray
  have hK := hcx.now.2.1
  have hl := lv_entry ([.int k]) (n := 1) (Nat.le_of_ble_eq_true rfl)
  rw [lg_entry_eq]
  generalize (lg_sl ([.int k]) ++ List.replicate (1 - (lg_sl ([.int k])).length) Slot.unset).toArray = ls at hl ⊢
  have hl : lv_has ls 1 [(0, .int k)] := hl
  unfold wp_Pm_unsigned at hw
  refine lv_iload_n hx hb d_Pm_unsigned_0 rfl (lv_at hl 0 rfl) ?_
  refine lv_i2l (v := k.toInt64) hx hb d_Pm_unsigned_1 rfl ?_
  refine lv_ldc2 (v := 4294967295) hx hb hown (hts _ k_Pm_181) d_Pm_unsigned_2 ?_
  refine lv_land hx hb d_Pm_unsigned_5 ?_
  exact W.lret (v := k.toInt64 &&& 4294967295) hx hb hr (fun t ht hW => ⟨⟨k.toInt64 &&& 4294967295, (), rfl, hw, trivial⟩, hS.F ht⟩) hS.2.2 d_Pm_unsigned_6
theorem c_Pm_unsigned (l : Launch) (G : cxT) (k : Int32) : Met l y_Pm_unsigned [.code y_Pm_unsigned b_Pm_unsigned 1 (some .long)] ({ frames := 0, cells := 0, slots := 0, locals := 0 } : Room) (cp G [.int k] []) (va_Ql (fun r (_ : Unit) => (fun r => r = (u32 k)) r) (fun _ _ => True) (fun _ => False)) 0 0 (fun _ => False) :=
  t_Pm_unsigned l G k (fun r => r = (u32 k)) (by
    exact rfl)
def wp_Pm_isReference (post : Int32 → Prop) (rf : Int32) : Prop := ((rf < (-1) → (post 0)) ∧ (¬ rf < (-1) → (post 1)))
set_option maxHeartbeats 4000000 in
set_option maxRecDepth 100000 in
theorem t_Pm_isReference (l : Launch) (G : cxT) (rf : Int32) (post : Int32 → Prop) (hw : wp_Pm_isReference post rf) : Met l y_Pm_isReference [.code y_Pm_isReference b_Pm_isReference 1 (some .boolean)] ({ frames := 0, cells := 0, slots := 0, locals := 0 } : Room) (cp G [.int rf] []) (va_Qi (fun r (_ : Unit) => post r) (fun _ _ => True) (fun _ => False)) 0 0 (fun _ => False) := by
  refine Met.ofW (cc := b_Pm_isReference) (maxL := 1) (ret := (some .boolean)) (by decide +kernel) rfl ?_
  intro p e s m args below meth c s₁ B hml hv
  obtain ⟨rfl, hcx, hP⟩ := hv
  have hx := B.exec
  have hb := B.bytes
  have hr := B.returns
  have hlocks := B.notSynchronized
  have hown : s.vm.findClass R_Pm = some m.cls := findClass_of_methodNamed B.named
  have hS : va_S (fun _ => False) s.heap s.heap [] := va_S.rf
  have hts := hcx.now.1 [.int rf].toArray
  have hK := hcx.now.2.1
  have hl := lv_entry ([.int rf]) (n := 1) (Nat.le_of_ble_eq_true rfl)
  rw [lg_entry_eq]
  generalize (lg_sl ([.int rf]) ++ List.replicate (1 - (lg_sl ([.int rf])).length) Slot.unset).toArray = ls at hl ⊢
  have hl : lv_has ls 1 [(0, .int rf)] := hl
  unfold wp_Pm_isReference at hw
  refine lv_iload_n hx hb d_Pm_isReference_0 rfl (lv_at hl 0 rfl) ?_
  refine lv_iconst (v := (-1)) hx hb d_Pm_isReference_1 (by decide) ?_
  refine lv_icmp_lt (tgt := 9) hx hb d_Pm_isReference_2 (by decide) (fun c_1 => ?_) (fun c_1 => ?_)
  · replace hw := hw.1 c_1
    refine lv_iconst (v := 0) hx hb d_Pm_isReference_9 (by decide) ?_
    exact W.zret (v := 0) (ty := .boolean) hx hb hr rfl (fun t ht hW => ⟨⟨0, (), rfl, hw, trivial⟩, hS.F ht⟩) hS.2.2 d_Pm_isReference_10
  · replace hw := hw.2 c_1
    refine lv_iconst (v := 1) hx hb d_Pm_isReference_5 (by decide) ?_
    refine lv_goto (tgt := 10) hx hb d_Pm_isReference_6 (by decide) ?_
    exact W.zret (v := 1) (ty := .boolean) hx hb hr rfl (fun t ht hW => ⟨⟨1, (), rfl, hw, trivial⟩, hS.F ht⟩) hS.2.2 d_Pm_isReference_10
theorem c_Pm_isReference (l : Launch) (G : cxT) (rf : Int32) : Met l y_Pm_isReference [.code y_Pm_isReference b_Pm_isReference 1 (some .boolean)] ({ frames := 0, cells := 0, slots := 0, locals := 0 } : Room) (cp G [.int rf] []) (va_Qi (fun r (_ : Unit) => (fun r => r = (is_ref rf)) r) (fun _ _ => True) (fun _ => False)) 0 0 (fun _ => False) :=
  t_Pm_isReference l G rf (fun r => r = (is_ref rf)) (by
    unfold wp_Pm_isReference is_ref
    exact ⟨fun c1 => by simp [c1], fun c1 => by simp [c1]⟩)
def wp_Pm_widthOf_0 (post : Int32 → Prop) (op : Int32) (fst : Int32) : Prop := ((op < fst → (post 0)) ∧ (¬ op < fst → (((op - fst < nI 14 → ((vp_in (op - fst) 14) ∧ (post (wLoad (op - fst).toNatClampNeg)))) ∧ (¬ op - fst < nI 14 → (post 0))))))
set_option maxHeartbeats 4000000 in
set_option maxRecDepth 100000 in
theorem t_Pm_widthOf_0 (l : Launch) (G : cxT) (op : Int32) (fst : Int32) (post : Int32 → Prop) (hw : wp_Pm_widthOf_0 post op fst) : Met l y_Pm_widthOf [.code y_Pm_widthOf b_Pm_widthOf 3 (some .int)] ({ frames := 0, cells := 0, slots := 0, locals := 0 } : Room) (cp G [.int op, .int fst, .ref (G.2.2 0)] []) (va_Qi (fun r (_ : Unit) => post r) (fun _ _ => True) (fun _ => False)) 0 0 (fun _ => False) := by
  refine Met.ofW (cc := b_Pm_widthOf) (maxL := 3) (ret := (some .int)) (by decide +kernel) rfl ?_
  intro p e s m args below meth c s₁ B hml hv
  obtain ⟨rfl, hcx, hP⟩ := hv
  have hx := B.exec
  have hb := B.bytes
  have hr := B.returns
  have hlocks := B.notSynchronized
  have hown : s.vm.findClass R_Pm = some m.cls := findClass_of_methodNamed B.named
  have hS : va_S (fun _ => False) s.heap s.heap [] := va_S.rf
  have hts := hcx.now.1 [.int op, .int fst, .ref (G.2.2 0)].toArray
  have hK := hcx.now.2.1
  have hT := hcx.now.2.2.2.2.1.2
  have hl := lv_entry ([.int op, .int fst, .ref (G.2.2 0)]) (n := 3) (Nat.le_of_ble_eq_true rfl)
  rw [lg_entry_eq]
  generalize (lg_sl ([.int op, .int fst, .ref (G.2.2 0)]) ++ List.replicate (3 - (lg_sl ([.int op, .int fst, .ref (G.2.2 0)])).length) Slot.unset).toArray = ls at hl ⊢
  have hl : lv_has ls 3 [(0, .int op), (1, .int fst), (2, .ref (G.2.2 0))] := hl
  unfold wp_Pm_widthOf_0 at hw
  refine lv_iload_n hx hb d_Pm_widthOf_0 rfl (lv_at hl 0 rfl) ?_
  refine lv_iload_n hx hb d_Pm_widthOf_1 rfl (lv_at hl 1 rfl) ?_
  refine lv_icmp_lt (tgt := 13) hx hb d_Pm_widthOf_2 (by decide) (fun c_1 => ?_) (fun c_1 => ?_)
  · replace hw := hw.1 c_1
    refine lv_iconst (v := 0) hx hb d_Pm_widthOf_13 (by decide) ?_
    exact W.iret (v := 0) hx hb hr (fun t ht hW => ⟨⟨0, (), rfl, hw, trivial⟩, hS.F ht⟩) hS.2.2 d_Pm_widthOf_14
  · replace hw := hw.2 c_1
    refine lv_iload_n hx hb d_Pm_widthOf_5 rfl (lv_at hl 0 rfl) ?_
    refine lv_iload_n hx hb d_Pm_widthOf_6 rfl (lv_at hl 1 rfl) ?_
    refine lv_isub hx hb d_Pm_widthOf_7 ?_
    refine lv_aload_n hx hb d_Pm_widthOf_8 rfl (lv_at hl 2 rfl) ?_
    refine va_tlen (v := nI 14) hx hb hT hS rfl d_Pm_widthOf_9 ?_
    refine lv_icmp_lt (tgt := 15) hx hb d_Pm_widthOf_10 (by decide) (fun c_2 => ?_) (fun c_2 => ?_)
    · replace hw := hw.1 c_2
      refine lv_aload_n hx hb d_Pm_widthOf_15 rfl (lv_at hl 2 rfl) ?_
      refine lv_iload_n hx hb d_Pm_widthOf_16 rfl (lv_at hl 0 rfl) ?_
      refine lv_iload_n hx hb d_Pm_widthOf_17 rfl (lv_at hl 1 rfl) ?_
      refine lv_isub hx hb d_Pm_widthOf_18 ?_
      obtain ⟨h_3, hw⟩ := hw
      refine va_ti (v := .int (wLoad (op - fst).toNatClampNeg)) hx hb hT hS h_3 rfl d_Pm_widthOf_19 ?_
      exact W.iret (v := wLoad (op - fst).toNatClampNeg) hx hb hr (fun t ht hW => ⟨⟨wLoad (op - fst).toNatClampNeg, (), rfl, hw, trivial⟩, hS.F ht⟩) hS.2.2 d_Pm_widthOf_20
    · replace hw := hw.2 c_2
      refine lv_iconst (v := 0) hx hb d_Pm_widthOf_13 (by decide) ?_
      exact W.iret (v := 0) hx hb hr (fun t ht hW => ⟨⟨0, (), rfl, hw, trivial⟩, hS.F ht⟩) hS.2.2 d_Pm_widthOf_14
theorem c_Pm_widthOf_0 (l : Launch) (G : cxT) (op : Int32) (fst : Int32) (h0 : 0 ≤ fst.toInt) : Met l y_Pm_widthOf [.code y_Pm_widthOf b_Pm_widthOf 3 (some .int)] ({ frames := 0, cells := 0, slots := 0, locals := 0 } : Room) (cp G [.int op, .int fst, .ref (G.2.2 0)] []) (va_Qi (fun r (_ : Unit) => (fun r => r = (w_of op fst 14 wLoad)) r) (fun _ _ => True) (fun _ => False)) 0 0 (fun _ => False) :=
  t_Pm_widthOf_0 l G op fst (fun r => r = (w_of op fst 14 wLoad)) (by
    unfold wp_Pm_widthOf_0 w_of
    exact ⟨fun c1 => by simp [c1], fun c1 => ⟨fun c2 => ⟨w_of_in c1 c2 h0 (by decide), by simp [c1, c2]⟩, fun c2 => by simp [c1, c2]⟩⟩)
def wp_Pm_widthOf_1 (post : Int32 → Prop) (op : Int32) (fst : Int32) : Prop := ((op < fst → (post 0)) ∧ (¬ op < fst → (((op - fst < nI 9 → ((vp_in (op - fst) 9) ∧ (post (wStore (op - fst).toNatClampNeg)))) ∧ (¬ op - fst < nI 9 → (post 0))))))
set_option maxHeartbeats 4000000 in
set_option maxRecDepth 100000 in
theorem t_Pm_widthOf_1 (l : Launch) (G : cxT) (op : Int32) (fst : Int32) (post : Int32 → Prop) (hw : wp_Pm_widthOf_1 post op fst) : Met l y_Pm_widthOf [.code y_Pm_widthOf b_Pm_widthOf 3 (some .int)] ({ frames := 0, cells := 0, slots := 0, locals := 0 } : Room) (cp G [.int op, .int fst, .ref (G.2.2 1)] []) (va_Qi (fun r (_ : Unit) => post r) (fun _ _ => True) (fun _ => False)) 0 0 (fun _ => False) := by
  refine Met.ofW (cc := b_Pm_widthOf) (maxL := 3) (ret := (some .int)) (by decide +kernel) rfl ?_
  intro p e s m args below meth c s₁ B hml hv
  obtain ⟨rfl, hcx, hP⟩ := hv
  have hx := B.exec
  have hb := B.bytes
  have hr := B.returns
  have hlocks := B.notSynchronized
  have hown : s.vm.findClass R_Pm = some m.cls := findClass_of_methodNamed B.named
  have hS : va_S (fun _ => False) s.heap s.heap [] := va_S.rf
  have hts := hcx.now.1 [.int op, .int fst, .ref (G.2.2 1)].toArray
  have hK := hcx.now.2.1
  have hT := hcx.now.2.2.2.2.2.1.2
  have hl := lv_entry ([.int op, .int fst, .ref (G.2.2 1)]) (n := 3) (Nat.le_of_ble_eq_true rfl)
  rw [lg_entry_eq]
  generalize (lg_sl ([.int op, .int fst, .ref (G.2.2 1)]) ++ List.replicate (3 - (lg_sl ([.int op, .int fst, .ref (G.2.2 1)])).length) Slot.unset).toArray = ls at hl ⊢
  have hl : lv_has ls 3 [(0, .int op), (1, .int fst), (2, .ref (G.2.2 1))] := hl
  unfold wp_Pm_widthOf_1 at hw
  refine lv_iload_n hx hb d_Pm_widthOf_0 rfl (lv_at hl 0 rfl) ?_
  refine lv_iload_n hx hb d_Pm_widthOf_1 rfl (lv_at hl 1 rfl) ?_
  refine lv_icmp_lt (tgt := 13) hx hb d_Pm_widthOf_2 (by decide) (fun c_1 => ?_) (fun c_1 => ?_)
  · replace hw := hw.1 c_1
    refine lv_iconst (v := 0) hx hb d_Pm_widthOf_13 (by decide) ?_
    exact W.iret (v := 0) hx hb hr (fun t ht hW => ⟨⟨0, (), rfl, hw, trivial⟩, hS.F ht⟩) hS.2.2 d_Pm_widthOf_14
  · replace hw := hw.2 c_1
    refine lv_iload_n hx hb d_Pm_widthOf_5 rfl (lv_at hl 0 rfl) ?_
    refine lv_iload_n hx hb d_Pm_widthOf_6 rfl (lv_at hl 1 rfl) ?_
    refine lv_isub hx hb d_Pm_widthOf_7 ?_
    refine lv_aload_n hx hb d_Pm_widthOf_8 rfl (lv_at hl 2 rfl) ?_
    refine va_tlen (v := nI 9) hx hb hT hS rfl d_Pm_widthOf_9 ?_
    refine lv_icmp_lt (tgt := 15) hx hb d_Pm_widthOf_10 (by decide) (fun c_2 => ?_) (fun c_2 => ?_)
    · replace hw := hw.1 c_2
      refine lv_aload_n hx hb d_Pm_widthOf_15 rfl (lv_at hl 2 rfl) ?_
      refine lv_iload_n hx hb d_Pm_widthOf_16 rfl (lv_at hl 0 rfl) ?_
      refine lv_iload_n hx hb d_Pm_widthOf_17 rfl (lv_at hl 1 rfl) ?_
      refine lv_isub hx hb d_Pm_widthOf_18 ?_
      obtain ⟨h_3, hw⟩ := hw
      refine va_ti (v := .int (wStore (op - fst).toNatClampNeg)) hx hb hT hS h_3 rfl d_Pm_widthOf_19 ?_
      exact W.iret (v := wStore (op - fst).toNatClampNeg) hx hb hr (fun t ht hW => ⟨⟨wStore (op - fst).toNatClampNeg, (), rfl, hw, trivial⟩, hS.F ht⟩) hS.2.2 d_Pm_widthOf_20
    · replace hw := hw.2 c_2
      refine lv_iconst (v := 0) hx hb d_Pm_widthOf_13 (by decide) ?_
      exact W.iret (v := 0) hx hb hr (fun t ht hW => ⟨⟨0, (), rfl, hw, trivial⟩, hS.F ht⟩) hS.2.2 d_Pm_widthOf_14
theorem c_Pm_widthOf_1 (l : Launch) (G : cxT) (op : Int32) (fst : Int32) (h0 : 0 ≤ fst.toInt) : Met l y_Pm_widthOf [.code y_Pm_widthOf b_Pm_widthOf 3 (some .int)] ({ frames := 0, cells := 0, slots := 0, locals := 0 } : Room) (cp G [.int op, .int fst, .ref (G.2.2 1)] []) (va_Qi (fun r (_ : Unit) => (fun r => r = (w_of op fst 9 wStore)) r) (fun _ _ => True) (fun _ => False)) 0 0 (fun _ => False) :=
  t_Pm_widthOf_1 l G op fst (fun r => r = (w_of op fst 9 wStore)) (by
    unfold wp_Pm_widthOf_1 w_of
    exact ⟨fun c1 => by simp [c1], fun c1 => ⟨fun c2 => ⟨w_of_in c1 c2 h0 (by decide), by simp [c1, c2]⟩, fun c2 => by simp [c1, c2]⟩⟩)
def wp_Pm_extended (post : Int64 → Prop) (op : Int32) (vv : Int64) : Prop := ((op = 44 → (post (vv.toInt32.toInt8.toInt32.toInt64 &&& 4294967295))) ∧ (¬ op = 44 → (((op = 45 → (post vv)) ∧ (¬ op = 45 → (((op = 46 → (post (vv.toInt32.toInt16.toInt32.toInt64 &&& 4294967295))) ∧ (¬ op = 46 → (((op = 47 → (post vv)) ∧ (¬ op = 47 → (((op = 48 → (post vv.toInt32.toInt8.toInt32.toInt64)) ∧ (¬ op = 48 → (((op = 49 → (post vv)) ∧ (¬ op = 49 → (((op = 50 → (post vv.toInt32.toInt16.toInt32.toInt64)) ∧ (¬ op = 50 → (((op = 51 → (post vv)) ∧ (¬ op = 51 → (((op = 52 → (post vv.toInt32.toInt64)) ∧ (¬ op = 52 → (post vv)))))))))))))))))))))))))))
set_option maxHeartbeats 4000000 in
set_option maxRecDepth 100000 in
theorem t_Pm_extended (l : Launch) (G : cxT) (op : Int32) (vv : Int64) (post : Int64 → Prop) (hw : wp_Pm_extended post op vv) : Met l y_Pm_extended [.code y_Pm_extended b_Pm_extended 3 (some .long)] ({ frames := 0, cells := 0, slots := 0, locals := 0 } : Room) (cp G [.int op, .long vv] []) (va_Ql (fun r (_ : Unit) => post r) (fun _ _ => True) (fun _ => False)) 0 0 (fun _ => False) := by
  refine Met.ofW (cc := b_Pm_extended) (maxL := 3) (ret := (some .long)) (by decide +kernel) rfl ?_
  intro p e s m args below meth c s₁ B hml hv
  obtain ⟨rfl, hcx, hP⟩ := hv
  have hx := B.exec
  have hb := B.bytes
  have hr := B.returns
  have hlocks := B.notSynchronized
  have hown : s.vm.findClass R_Pm = some m.cls := findClass_of_methodNamed B.named
  have hS : va_S (fun _ => False) s.heap s.heap [] := va_S.rf
  have hts := hcx.now.1 [.int op, .long vv].toArray
  have hK := hcx.now.2.1
  have hl := lv_entry ([.int op, .long vv]) (n := 3) (Nat.le_of_ble_eq_true rfl)
  rw [lg_entry_eq]
  generalize (lg_sl ([.int op, .long vv]) ++ List.replicate (3 - (lg_sl ([.int op, .long vv])).length) Slot.unset).toArray = ls at hl ⊢
  have hl : lv_has ls 3 [(0, .int op), (1, .long vv)] := hl
  unfold wp_Pm_extended at hw
  refine lv_iload_n hx hb d_Pm_extended_0 rfl (lv_at hl 0 rfl) ?_
  by_cases c_1 : op = 44
  · replace hw := hw.1 c_1
    refine lv_tableIn (tgt := 52) hx hb d_Pm_extended_1 (by rw [c_1]; decide) (by rw [c_1]; decide) (by rw [c_1]; rfl) (by decide) ?_
    refine lv_lload_n hx hb d_Pm_extended_52 rfl (lv_at hl 1 rfl) ?_
    refine lv_l2i (v := vv.toInt32) hx hb d_Pm_extended_53 rfl ?_
    refine lv_i2b (v := vv.toInt32.toInt8.toInt32) hx hb d_Pm_extended_54 rfl ?_
    refine lv_i2l (v := vv.toInt32.toInt8.toInt32.toInt64) hx hb d_Pm_extended_55 rfl ?_
    refine lv_ldc2 (v := 4294967295) hx hb hown (hts _ k_Pm_181) d_Pm_extended_56 ?_
    refine lv_land hx hb d_Pm_extended_59 ?_
    exact W.lret (v := vv.toInt32.toInt8.toInt32.toInt64 &&& 4294967295) hx hb hr (fun t ht hW => ⟨⟨vv.toInt32.toInt8.toInt32.toInt64 &&& 4294967295, (), rfl, hw, trivial⟩, hS.F ht⟩) hS.2.2 d_Pm_extended_60
  · replace hw := hw.2 c_1
    by_cases c_2 : op = 45
    · replace hw := hw.1 c_2
      refine lv_tableIn (tgt := 84) hx hb d_Pm_extended_1 (by rw [c_2]; decide) (by rw [c_2]; decide) (by rw [c_2]; rfl) (by decide) ?_
      refine lv_lload_n hx hb d_Pm_extended_84 rfl (lv_at hl 1 rfl) ?_
      exact W.lret (v := vv) hx hb hr (fun t ht hW => ⟨⟨vv, (), rfl, hw, trivial⟩, hS.F ht⟩) hS.2.2 d_Pm_extended_85
    · replace hw := hw.2 c_2
      by_cases c_3 : op = 46
      · replace hw := hw.1 c_3
        refine lv_tableIn (tgt := 61) hx hb d_Pm_extended_1 (by rw [c_3]; decide) (by rw [c_3]; decide) (by rw [c_3]; rfl) (by decide) ?_
        refine lv_lload_n hx hb d_Pm_extended_61 rfl (lv_at hl 1 rfl) ?_
        refine lv_l2i (v := vv.toInt32) hx hb d_Pm_extended_62 rfl ?_
        refine lv_i2s (v := vv.toInt32.toInt16.toInt32) hx hb d_Pm_extended_63 rfl ?_
        refine lv_i2l (v := vv.toInt32.toInt16.toInt32.toInt64) hx hb d_Pm_extended_64 rfl ?_
        refine lv_ldc2 (v := 4294967295) hx hb hown (hts _ k_Pm_181) d_Pm_extended_65 ?_
        refine lv_land hx hb d_Pm_extended_68 ?_
        exact W.lret (v := vv.toInt32.toInt16.toInt32.toInt64 &&& 4294967295) hx hb hr (fun t ht hW => ⟨⟨vv.toInt32.toInt16.toInt32.toInt64 &&& 4294967295, (), rfl, hw, trivial⟩, hS.F ht⟩) hS.2.2 d_Pm_extended_69
      · replace hw := hw.2 c_3
        by_cases c_4 : op = 47
        · replace hw := hw.1 c_4
          refine lv_tableIn (tgt := 84) hx hb d_Pm_extended_1 (by rw [c_4]; decide) (by rw [c_4]; decide) (by rw [c_4]; rfl) (by decide) ?_
          refine lv_lload_n hx hb d_Pm_extended_84 rfl (lv_at hl 1 rfl) ?_
          exact W.lret (v := vv) hx hb hr (fun t ht hW => ⟨⟨vv, (), rfl, hw, trivial⟩, hS.F ht⟩) hS.2.2 d_Pm_extended_85
        · replace hw := hw.2 c_4
          by_cases c_5 : op = 48
          · replace hw := hw.1 c_5
            refine lv_tableIn (tgt := 70) hx hb d_Pm_extended_1 (by rw [c_5]; decide) (by rw [c_5]; decide) (by rw [c_5]; rfl) (by decide) ?_
            refine lv_lload_n hx hb d_Pm_extended_70 rfl (lv_at hl 1 rfl) ?_
            refine lv_l2i (v := vv.toInt32) hx hb d_Pm_extended_71 rfl ?_
            refine lv_i2b (v := vv.toInt32.toInt8.toInt32) hx hb d_Pm_extended_72 rfl ?_
            refine lv_i2l (v := vv.toInt32.toInt8.toInt32.toInt64) hx hb d_Pm_extended_73 rfl ?_
            exact W.lret (v := vv.toInt32.toInt8.toInt32.toInt64) hx hb hr (fun t ht hW => ⟨⟨vv.toInt32.toInt8.toInt32.toInt64, (), rfl, hw, trivial⟩, hS.F ht⟩) hS.2.2 d_Pm_extended_74
          · replace hw := hw.2 c_5
            by_cases c_6 : op = 49
            · replace hw := hw.1 c_6
              refine lv_tableIn (tgt := 84) hx hb d_Pm_extended_1 (by rw [c_6]; decide) (by rw [c_6]; decide) (by rw [c_6]; rfl) (by decide) ?_
              refine lv_lload_n hx hb d_Pm_extended_84 rfl (lv_at hl 1 rfl) ?_
              exact W.lret (v := vv) hx hb hr (fun t ht hW => ⟨⟨vv, (), rfl, hw, trivial⟩, hS.F ht⟩) hS.2.2 d_Pm_extended_85
            · replace hw := hw.2 c_6
              by_cases c_7 : op = 50
              · replace hw := hw.1 c_7
                refine lv_tableIn (tgt := 75) hx hb d_Pm_extended_1 (by rw [c_7]; decide) (by rw [c_7]; decide) (by rw [c_7]; rfl) (by decide) ?_
                refine lv_lload_n hx hb d_Pm_extended_75 rfl (lv_at hl 1 rfl) ?_
                refine lv_l2i (v := vv.toInt32) hx hb d_Pm_extended_76 rfl ?_
                refine lv_i2s (v := vv.toInt32.toInt16.toInt32) hx hb d_Pm_extended_77 rfl ?_
                refine lv_i2l (v := vv.toInt32.toInt16.toInt32.toInt64) hx hb d_Pm_extended_78 rfl ?_
                exact W.lret (v := vv.toInt32.toInt16.toInt32.toInt64) hx hb hr (fun t ht hW => ⟨⟨vv.toInt32.toInt16.toInt32.toInt64, (), rfl, hw, trivial⟩, hS.F ht⟩) hS.2.2 d_Pm_extended_79
              · replace hw := hw.2 c_7
                by_cases c_8 : op = 51
                · replace hw := hw.1 c_8
                  refine lv_tableIn (tgt := 84) hx hb d_Pm_extended_1 (by rw [c_8]; decide) (by rw [c_8]; decide) (by rw [c_8]; rfl) (by decide) ?_
                  refine lv_lload_n hx hb d_Pm_extended_84 rfl (lv_at hl 1 rfl) ?_
                  exact W.lret (v := vv) hx hb hr (fun t ht hW => ⟨⟨vv, (), rfl, hw, trivial⟩, hS.F ht⟩) hS.2.2 d_Pm_extended_85
                · replace hw := hw.2 c_8
                  by_cases c_9 : op = 52
                  · replace hw := hw.1 c_9
                    refine lv_tableIn (tgt := 80) hx hb d_Pm_extended_1 (by rw [c_9]; decide) (by rw [c_9]; decide) (by rw [c_9]; rfl) (by decide) ?_
                    refine lv_lload_n hx hb d_Pm_extended_80 rfl (lv_at hl 1 rfl) ?_
                    refine lv_l2i (v := vv.toInt32) hx hb d_Pm_extended_81 rfl ?_
                    refine lv_i2l (v := vv.toInt32.toInt64) hx hb d_Pm_extended_82 rfl ?_
                    exact W.lret (v := vv.toInt32.toInt64) hx hb hr (fun t ht hW => ⟨⟨vv.toInt32.toInt64, (), rfl, hw, trivial⟩, hS.F ht⟩) hS.2.2 d_Pm_extended_83
                  · replace hw := hw.2 c_9
                    have nc_1 := lv_neT (a := 44) c_1 (by decide)
                    have nc_2 := lv_neT (a := 45) c_2 (by decide)
                    have nc_3 := lv_neT (a := 46) c_3 (by decide)
                    have nc_4 := lv_neT (a := 47) c_4 (by decide)
                    have nc_5 := lv_neT (a := 48) c_5 (by decide)
                    have nc_6 := lv_neT (a := 49) c_6 (by decide)
                    have nc_7 := lv_neT (a := 50) c_7 (by decide)
                    have nc_8 := lv_neT (a := 51) c_8 (by decide)
                    have nc_9 := lv_neT (a := 52) c_9 (by decide)
                    refine lv_tableOut (tgt := 84) hx hb d_Pm_extended_1 (by omega) (by decide) ?_
                    refine lv_lload_n hx hb d_Pm_extended_84 rfl (lv_at hl 1 rfl) ?_
                    exact W.lret (v := vv) hx hb hr (fun t ht hW => ⟨⟨vv, (), rfl, hw, trivial⟩, hS.F ht⟩) hS.2.2 d_Pm_extended_85
theorem c_Pm_extended (l : Launch) (G : cxT) (op : Int32) (vv : Int64) : Met l y_Pm_extended [.code y_Pm_extended b_Pm_extended 3 (some .long)] ({ frames := 0, cells := 0, slots := 0, locals := 0 } : Room) (cp G [.int op, .long vv] []) (va_Ql (fun r (_ : Unit) => (fun r => r = (ext_of op vv)) r) (fun _ _ => True) (fun _ => False)) 0 0 (fun _ => False) :=
  t_Pm_extended l G op vv (fun r => r = (ext_of op vv)) (by
    unfold wp_Pm_extended ext_of
    refine ⟨fun h => ?_, fun h => ⟨fun h1 => ?_, fun h1 => ⟨fun h2 => ?_, fun h2 => ⟨fun h3 => ?_, fun h3 => ⟨fun h4 => ?_, fun h4 => ⟨fun h5 => ?_, fun h5 => ⟨fun h6 => ?_, fun h6 => ⟨fun h7 => ?_, fun h7 => ⟨fun h8 => ?_, fun h8 => ?_⟩⟩⟩⟩⟩⟩⟩⟩⟩ <;> simp [*])
