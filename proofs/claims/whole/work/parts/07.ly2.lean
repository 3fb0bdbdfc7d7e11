
def ly_shift (f0 : Nat → Int32) (k c : Nat) (d : Int32) : Nat → Int32 := fun j => if k < j ∧ j < c then f0 j + d else f0 j
theorem ly_can_in {cnt : Int32} {n : Nat} (h : ¬ cnt ≤ 0) (hc : cnt.toInt ≤ n) : vp_in (cnt - 1) n := by
  rw [Int32.le_iff_toInt_le] at h
  have e : (0 : Int32).toInt = 0 := rfl
  obtain ⟨j, hj, rfl⟩ := nI_of (x := cnt) (by rw [Int32.lt_iff_toInt_lt]; omega)
  rw [nI_toInt hj] at h hc
  obtain ⟨i, rfl⟩ : ∃ i, j = i + 1 := ⟨j - 1, by omega⟩
  rw [nI_pred, vp_in_iff, nI_toInt (by omega)]
  omega

def wp_Ly_canTake (post : Int32 → Prop) (n : Nat) (rm : Int32) (cnt : Int32) (us : Int32) (f0 : Nat → Int32) (f1 : Nat → Int32) (f2 : Nat → Int32) (km : Int32) (mo : Int32) : Prop := ((mo = 0 → (((¬ ly_full cnt n = 0 → (post 0)) ∧ (ly_full cnt n = 0 → (((rm - us < km → (post 0)) ∧ (¬ rm - us < km → (post 1)))))))) ∧ (¬ mo = 0 → (((cnt ≤ 0 → (post 0)) ∧ (¬ cnt ≤ 0 → ((vp_in (cnt - 1) n) ∧ (((¬ f2 (cnt - 1).toNatClampNeg = 0 → (post 0)) ∧ (f2 (cnt - 1).toNatClampNeg = 0 → (((rm - us < km → (post 0)) ∧ (¬ rm - us < km → (post 1)))))))))))))
set_option maxHeartbeats 4000000 in
set_option maxRecDepth 100000 in
theorem t_Ly_canTake (l : Launch) (G : cxT) (h : Nat) (a1 : Nat) (a2 : Nat) (a3 : Nat) (n : Nat) (rm : Int32) (cnt : Int32) (us : Int32) (f0 : Nat → Int32) (f1 : Nat → Int32) (f2 : Nat → Int32) (km : Int32) (mo : Int32) (post : Int32 → Prop) (hw : wp_Ly_canTake post n rm cnt us f0 f1 f2 km mo) : Met l y_Ly_canTake [.code y_Ly_canTake b_Ly_canTake 4 (some .boolean)] ({ frames := 1, cells := 0, slots := 0, locals := 40 } : Room) (cp G [.ref h, .int km, .int mo] [(h, .inr (0, [.int rm, .ref a1, .ref a2, .ref a3, .int cnt, .int us])), (a1, .inl (G.2.1 0, n, .inl f0)), (a2, .inl (G.2.1 0, n, .inl f1)), (a3, .inl (G.2.1 2, n, .inl f2))]) (va_Qi (fun r (_ : Unit) => post r) (fun _ _ => True) (fun _ => False)) 0 0 (fun _ => False) := by
  refine Met.ofW (cc := b_Ly_canTake) (maxL := 4) (ret := (some .boolean)) (by decide +kernel) rfl ?_
  intro p e s m args below meth c s₁ B hml hv
  obtain ⟨rfl, hcx, hP⟩ := hv
  have hx := B.exec
  have hb := B.bytes
  have hr := B.returns
  have hlocks := B.notSynchronized
  have hown : s.vm.findClass R_Ly = some m.cls := findClass_of_methodNamed B.named
  have hS : va_S (fun _ => False) s.heap s.heap [] := va_S.rf
  have hts := hcx.now.1 [.ref h, .int km, .int mo].toArray
  have hK := hcx.now.2.1
  have hl := lv_entry ([.ref h, .int km, .int mo]) (n := 4) (Nat.le_of_ble_eq_true rfl)
  rw [lg_entry_eq]
  generalize (lg_sl ([.ref h, .int km, .int mo]) ++ List.replicate (4 - (lg_sl ([.ref h, .int km, .int mo])).length) Slot.unset).toArray = ls at hl ⊢
  have hl : lv_has ls 4 [(0, .ref h), (1, .int km), (2, .int mo)] := hl
  unfold wp_Ly_canTake at hw
  refine lv_iload_n hx hb d_Ly_canTake_0 rfl (lv_at hl 2 rfl) ?_
  refine lv_if_eq (tgt := 33) hx hb d_Ly_canTake_1 (by decide) (fun c_1 => ?_) (fun c_1 => ?_)
  · replace hw := hw.1 c_1
    refine lv_aload_n hx hb d_Ly_canTake_33 rfl (lv_at hl 0 rfl) ?_
    have hPc := hP.sub (ws' := [(h, .inr (0, [.int rm, .ref a1, .ref a2, .ref a3, .int cnt, .int us])), (a1, .inl (G.2.1 0, n, .inl f0)), (a2, .inl (G.2.1 0, n, .inl f1)), (a3, .inl (G.2.1 2, n, .inl f2))]) [0, 1, 2, 3] rfl
    refine pu_i (va_runV (As := []) (rest := []) ⟨hx, hb, hml, hown, hts⟩ (c_Ly_isFull l G h a1 a2 a3 n rm cnt us f0 f1 f2) (cwV 0 hts (gi_V ml_Ly_36 im_Ly_isFull se_Ly_isFull ini_Ly co_Ly_isFull) rfl rfl rfl (by decide +kernel) ⟨Nat.le_of_ble_eq_true rfl, Nat.le_of_ble_eq_true rfl⟩) ⟨cp_blind, va_recv hK hPc (ci := 0) (q0 := 0) rfl rfl, cp_pre hcx hS hPc⟩ rfl rfl hl.1 rfl (lv_room (Nat.le_of_ble_eq_true rfl)) d_Ly_canTake_34 ⟨Nat.le_of_ble_eq_true rfl, Nat.le_of_ble_eq_true rfl⟩) hS hP (fun H locs hP hS => ?_)
    refine lv_if_ne (tgt := 44) hx hb d_Ly_canTake_37 (by decide) (fun c_2 => ?_) (fun c_2 => ?_)
    · replace hw := hw.1 c_2
      refine lv_iconst (v := 0) hx hb d_Ly_canTake_44 (by decide) ?_
      refine lv_istore_n (lv' := [(3, .int 0), (0, .ref h), (1, .int km), (2, .int mo)]) hx hb d_Ly_canTake_45 rfl hl (by decide) rfl (fun ls hl => ?_)
      refine lv_iload_n hx hb d_Ly_canTake_46 rfl (lv_at hl 0 rfl) ?_
      refine lv_if_eq (tgt := 62) hx hb d_Ly_canTake_47 (by decide) (fun _ => ?_) (fun c_3 => absurd c_3 (by decide))
      refine lv_iconst (v := 0) hx hb d_Ly_canTake_62 (by decide) ?_
      exact W.zret (v := 0) (ty := .boolean) hx hb hr rfl (fun t ht hW => ⟨⟨0, (), rfl, hw, trivial⟩, hS.F ht⟩) hS.2.2 d_Ly_canTake_63
    · replace hw := hw.2 c_2
      refine lv_iconst (v := 1) hx hb d_Ly_canTake_40 (by decide) ?_
      refine lv_goto (tgt := 45) hx hb d_Ly_canTake_41 (by decide) ?_
      refine lv_istore_n (lv' := [(3, .int 1), (0, .ref h), (1, .int km), (2, .int mo)]) hx hb d_Ly_canTake_45 rfl hl (by decide) rfl (fun ls hl => ?_)
      refine lv_iload_n hx hb d_Ly_canTake_46 rfl (lv_at hl 0 rfl) ?_
      refine lv_if_eq (tgt := 62) hx hb d_Ly_canTake_47 (by decide) (fun c_4 => absurd c_4 (by decide)) (fun _ => ?_)
      refine lv_iload_n hx hb d_Ly_canTake_50 rfl (lv_at hl 2 rfl) ?_
      refine lv_aload_n hx hb d_Ly_canTake_51 rfl (lv_at hl 1 rfl) ?_
      have hPc := hP.sub (ws' := [(h, .inr (0, [.int rm, .ref a1, .ref a2, .ref a3, .int cnt, .int us])), (a1, .inl (G.2.1 0, n, .inl f0)), (a2, .inl (G.2.1 0, n, .inl f1)), (a3, .inl (G.2.1 2, n, .inl f2))]) [0, 1, 2, 3] rfl
      refine pu_i (va_runV (As := []) (rest := [.int km]) ⟨hx, hb, hml, hown, hts⟩ (c_Ly_left l G h a1 a2 a3 n rm cnt us f0 f1 f2) (cwV 0 hts (gi_V ml_Ly_40 im_Ly_left se_Ly_left ini_Ly co_Ly_left) rfl rfl rfl (by decide +kernel) ⟨Nat.le_of_ble_eq_true rfl, Nat.le_of_ble_eq_true rfl⟩) ⟨cp_blind, va_recv hK hPc (ci := 0) (q0 := 0) rfl rfl, cp_pre hcx hS hPc⟩ rfl rfl hl.1 rfl (lv_room (Nat.le_of_ble_eq_true rfl)) d_Ly_canTake_52 ⟨Nat.le_of_ble_eq_true rfl, Nat.le_of_ble_eq_true rfl⟩) hS hP (fun H locs hP hS => ?_)
      refine lv_icmp_gt (tgt := 62) hx hb d_Ly_canTake_55 (by decide) (fun c_5 => ?_) (fun c_5 => ?_)
      · replace hw := hw.1 c_5
        refine lv_iconst (v := 0) hx hb d_Ly_canTake_62 (by decide) ?_
        exact W.zret (v := 0) (ty := .boolean) hx hb hr rfl (fun t ht hW => ⟨⟨0, (), rfl, hw, trivial⟩, hS.F ht⟩) hS.2.2 d_Ly_canTake_63
      · replace hw := hw.2 c_5
        refine lv_iconst (v := 1) hx hb d_Ly_canTake_58 (by decide) ?_
        refine lv_goto (tgt := 63) hx hb d_Ly_canTake_59 (by decide) ?_
        exact W.zret (v := 1) (ty := .boolean) hx hb hr rfl (fun t ht hW => ⟨⟨1, (), rfl, hw, trivial⟩, hS.F ht⟩) hS.2.2 d_Ly_canTake_63
  · replace hw := hw.2 c_1
    refine lv_aload_n hx hb d_Ly_canTake_4 rfl (lv_at hl 0 rfl) ?_
    refine va_get (D := G.1) (ci := 0) (v := .int cnt) (C := R_Ly) (T := T_Ly) (N := 6) hx hb hts in_Ly hown hK hP 0 rfl rfl 4 (by decide) (hts _ fl_Ly_26) (fun _ h9 => h9) rfl d_Ly_canTake_5 ?_
    refine lv_if_le (tgt := 29) hx hb d_Ly_canTake_8 (by decide) (fun c_6 => ?_) (fun c_6 => ?_)
    · replace hw := hw.1 c_6
      refine lv_iconst (v := 0) hx hb d_Ly_canTake_29 (by decide) ?_
      refine lv_goto (tgt := 45) hx hb d_Ly_canTake_30 (by decide) ?_
      refine lv_istore_n (lv' := [(3, .int 0), (0, .ref h), (1, .int km), (2, .int mo)]) hx hb d_Ly_canTake_45 rfl hl (by decide) rfl (fun ls hl => ?_)
      refine lv_iload_n hx hb d_Ly_canTake_46 rfl (lv_at hl 0 rfl) ?_
      refine lv_if_eq (tgt := 62) hx hb d_Ly_canTake_47 (by decide) (fun _ => ?_) (fun c_7 => absurd c_7 (by decide))
      refine lv_iconst (v := 0) hx hb d_Ly_canTake_62 (by decide) ?_
      exact W.zret (v := 0) (ty := .boolean) hx hb hr rfl (fun t ht hW => ⟨⟨0, (), rfl, hw, trivial⟩, hS.F ht⟩) hS.2.2 d_Ly_canTake_63
    · replace hw := hw.2 c_6
      refine lv_aload_n hx hb d_Ly_canTake_11 rfl (lv_at hl 0 rfl) ?_
      refine va_get (D := G.1) (ci := 0) (v := .ref a3) (C := R_Ly) (T := T_Ly) (N := 6) hx hb hts in_Ly hown hK hP 0 rfl rfl 3 (by decide) (hts _ fl_Ly_22) (fun _ h9 => h9) rfl d_Ly_canTake_12 ?_
      refine lv_aload_n hx hb d_Ly_canTake_15 rfl (lv_at hl 0 rfl) ?_
      refine va_get (D := G.1) (ci := 0) (v := .int cnt) (C := R_Ly) (T := T_Ly) (N := 6) hx hb hts in_Ly hown hK hP 0 rfl rfl 4 (by decide) (hts _ fl_Ly_26) (fun _ h9 => h9) rfl d_Ly_canTake_16 ?_
      refine lv_iconst (v := 1) hx hb d_Ly_canTake_19 (by decide) ?_
      refine lv_isub hx hb d_Ly_canTake_20 ?_
      obtain ⟨h_8, hw⟩ := hw
      refine va_zald hx hb hK hP 3 2 rfl rfl h_8 d_Ly_canTake_21 ?_
      refine lv_if_ne (tgt := 29) hx hb d_Ly_canTake_22 (by decide) (fun c_9 => ?_) (fun c_9 => ?_)
      · replace hw := hw.1 c_9
        refine lv_iconst (v := 0) hx hb d_Ly_canTake_29 (by decide) ?_
        refine lv_goto (tgt := 45) hx hb d_Ly_canTake_30 (by decide) ?_
        refine lv_istore_n (lv' := [(3, .int 0), (0, .ref h), (1, .int km), (2, .int mo)]) hx hb d_Ly_canTake_45 rfl hl (by decide) rfl (fun ls hl => ?_)
        refine lv_iload_n hx hb d_Ly_canTake_46 rfl (lv_at hl 0 rfl) ?_
        refine lv_if_eq (tgt := 62) hx hb d_Ly_canTake_47 (by decide) (fun _ => ?_) (fun c_10 => absurd c_10 (by decide))
        refine lv_iconst (v := 0) hx hb d_Ly_canTake_62 (by decide) ?_
        exact W.zret (v := 0) (ty := .boolean) hx hb hr rfl (fun t ht hW => ⟨⟨0, (), rfl, hw, trivial⟩, hS.F ht⟩) hS.2.2 d_Ly_canTake_63
      · replace hw := hw.2 c_9
        refine lv_iconst (v := 1) hx hb d_Ly_canTake_25 (by decide) ?_
        refine lv_goto (tgt := 45) hx hb d_Ly_canTake_26 (by decide) ?_
        refine lv_istore_n (lv' := [(3, .int 1), (0, .ref h), (1, .int km), (2, .int mo)]) hx hb d_Ly_canTake_45 rfl hl (by decide) rfl (fun ls hl => ?_)
        refine lv_iload_n hx hb d_Ly_canTake_46 rfl (lv_at hl 0 rfl) ?_
        refine lv_if_eq (tgt := 62) hx hb d_Ly_canTake_47 (by decide) (fun c_11 => absurd c_11 (by decide)) (fun _ => ?_)
        refine lv_iload_n hx hb d_Ly_canTake_50 rfl (lv_at hl 2 rfl) ?_
        refine lv_aload_n hx hb d_Ly_canTake_51 rfl (lv_at hl 1 rfl) ?_
        have hPc := hP.sub (ws' := [(h, .inr (0, [.int rm, .ref a1, .ref a2, .ref a3, .int cnt, .int us])), (a1, .inl (G.2.1 0, n, .inl f0)), (a2, .inl (G.2.1 0, n, .inl f1)), (a3, .inl (G.2.1 2, n, .inl f2))]) [0, 1, 2, 3] rfl
        refine pu_i (va_runV (As := []) (rest := [.int km]) ⟨hx, hb, hml, hown, hts⟩ (c_Ly_left l G h a1 a2 a3 n rm cnt us f0 f1 f2) (cwV 0 hts (gi_V ml_Ly_40 im_Ly_left se_Ly_left ini_Ly co_Ly_left) rfl rfl rfl (by decide +kernel) ⟨Nat.le_of_ble_eq_true rfl, Nat.le_of_ble_eq_true rfl⟩) ⟨cp_blind, va_recv hK hPc (ci := 0) (q0 := 0) rfl rfl, cp_pre hcx hS hPc⟩ rfl rfl hl.1 rfl (lv_room (Nat.le_of_ble_eq_true rfl)) d_Ly_canTake_52 ⟨Nat.le_of_ble_eq_true rfl, Nat.le_of_ble_eq_true rfl⟩) hS hP (fun H locs hP hS => ?_)
        refine lv_icmp_gt (tgt := 62) hx hb d_Ly_canTake_55 (by decide) (fun c_12 => ?_) (fun c_12 => ?_)
        · replace hw := hw.1 c_12
          refine lv_iconst (v := 0) hx hb d_Ly_canTake_62 (by decide) ?_
          exact W.zret (v := 0) (ty := .boolean) hx hb hr rfl (fun t ht hW => ⟨⟨0, (), rfl, hw, trivial⟩, hS.F ht⟩) hS.2.2 d_Ly_canTake_63
        · replace hw := hw.2 c_12
          refine lv_iconst (v := 1) hx hb d_Ly_canTake_58 (by decide) ?_
          refine lv_goto (tgt := 63) hx hb d_Ly_canTake_59 (by decide) ?_
          exact W.zret (v := 1) (ty := .boolean) hx hb hr rfl (fun t ht hW => ⟨⟨1, (), rfl, hw, trivial⟩, hS.F ht⟩) hS.2.2 d_Ly_canTake_63
theorem c_Ly_canTake (l : Launch) (G : cxT) (h : Nat) (a1 : Nat) (a2 : Nat) (a3 : Nat) (n : Nat) (rm : Int32) (cnt : Int32) (us : Int32) (f0 : Nat → Int32) (f1 : Nat → Int32) (f2 : Nat → Int32) (km : Int32) (mo : Int32) (h0 : cnt.toInt ≤ n) : Met l y_Ly_canTake [.code y_Ly_canTake b_Ly_canTake 4 (some .boolean)] ({ frames := 1, cells := 0, slots := 0, locals := 40 } : Room) (cp G [.ref h, .int km, .int mo] [(h, .inr (0, [.int rm, .ref a1, .ref a2, .ref a3, .int cnt, .int us])), (a1, .inl (G.2.1 0, n, .inl f0)), (a2, .inl (G.2.1 0, n, .inl f1)), (a3, .inl (G.2.1 2, n, .inl f2))]) (va_Qi (fun r (_ : Unit) => (fun r => r = (ly_can cnt us rm km mo n f2)) r) (fun _ _ => True) (fun _ => False)) 0 0 (fun _ => False) :=
  t_Ly_canTake l G h a1 a2 a3 n rm cnt us f0 f1 f2 km mo (fun r => r = (ly_can cnt us rm km mo n f2)) (by
    unfold wp_Ly_canTake ly_can
    refine ⟨fun c1 => ⟨fun c2 => ?_, fun c2 => ⟨fun c3 => by simp [c1, c2, c3], fun c3 => by simp [c1, c2, c3]⟩⟩, fun c1 => ⟨fun c2 => by simp [c1, c2], fun c2 => ⟨ly_can_in c2 h0, fun c3 => by simp [c1, c2, c3], fun c3 => ⟨fun c4 => by simp [c1, c2, c3, c4], fun c4 => by simp [c1, c2, c3, c4]⟩⟩⟩⟩
    simp [c1, c2])
def wp_Ly_append (post : Int32 → ((Nat → Int32) × (Nat → Int32) × Int32 × Int32) → Prop) (n : Nat) (rm : Int32) (cnt : Int32) (us : Int32) (f0 : Nat → Int32) (f1 : Nat → Int32) (f2 : Nat → Int32) (len : Int32) : Prop := ((ly_full cnt n = 0 → ((vp_in cnt n) ∧ ∀ a_3 : Nat → Int32, a_3 = upd f0 cnt.toNatClampNeg us → ((vp_in cnt n) ∧ ∀ a_5 : Nat → Int32, a_5 = upd f1 cnt.toNatClampNeg len → (∀ x_6 : Int32, x_6 = us + len → (∀ x_7 : Int32, x_7 = cnt + 1 → (post (x_7 - 1) (a_3, a_5, x_7, x_6))))))) ∧ (¬ ly_full cnt n = 0 → (post (-1) (f0, f1, cnt, us))))
set_option maxHeartbeats 4000000 in
set_option maxRecDepth 100000 in
theorem t_Ly_append (l : Launch) (G : cxT) (h : Nat) (a1 : Nat) (a2 : Nat) (a3 : Nat) (n : Nat) (rm : Int32) (cnt : Int32) (us : Int32) (f0 : Nat → Int32) (f1 : Nat → Int32) (f2 : Nat → Int32) (len : Int32) (sz : Nat) (post : Int32 → ((Nat → Int32) × (Nat → Int32) × Int32 × Int32) → Prop) (hw : wp_Ly_append post n rm cnt us f0 f1 f2 len) : Met l y_Ly_append [.code y_Ly_append b_Ly_append 2 (some .int)] ({ frames := 1, cells := 0, slots := 0, locals := 40 } : Room) (cm G [.ref h, .int len] [(h, .inr (0, [.int rm, .ref a1, .ref a2, .ref a3, .int cnt, .int us])), (a1, .inl (G.2.1 0, n, .inl f0)), (a2, .inl (G.2.1 0, n, .inl f1)), (a3, .inl (G.2.1 2, n, .inl f2))] sz) (va_Qi post (fun u t => va_P G.1 vwC [(h, .inr (0, [.int rm, .ref a1, .ref a2, .ref a3, .int u.2.2.1, .int u.2.2.2])), (a1, .inl (G.2.1 0, n, .inl u.1)), (a2, .inl (G.2.1 0, n, .inl u.2.1)), (a3, .inl (G.2.1 2, n, .inl f2))] t.heap) (va_A [(h, .inr (0, [.int rm, .ref a1, .ref a2, .ref a3, .int cnt, .int us])), (a1, .inl (G.2.1 0, n, .inl f0)), (a2, .inl (G.2.1 0, n, .inl f1)), (a3, .inl (G.2.1 2, n, .inl f2))] sz)) 0 0 (va_A [(h, .inr (0, [.int rm, .ref a1, .ref a2, .ref a3, .int cnt, .int us])), (a1, .inl (G.2.1 0, n, .inl f0)), (a2, .inl (G.2.1 0, n, .inl f1)), (a3, .inl (G.2.1 2, n, .inl f2))] sz) := by
  refine Met.ofW (cc := b_Ly_append) (maxL := 2) (ret := (some .int)) (by decide +kernel) rfl ?_
  intro p e s m args below meth c s₁ B hml hv
  obtain ⟨rfl, hsz, hcx, hP, hD0⟩ := hv
  have hx := B.exec
  have hb := B.bytes
  have hr := B.returns
  have hlocks := B.notSynchronized
  have hown : s.vm.findClass R_Ly = some m.cls := findClass_of_methodNamed B.named
  subst hsz
  have hD := hD0.self (sz := s.heap.size)
  generalize hAe : va_A [(h, .inr (0, [.int rm, .ref a1, .ref a2, .ref a3, .int cnt, .int us])), (a1, .inl (G.2.1 0, n, .inl f0)), (a2, .inl (G.2.1 0, n, .inl f1)), (a3, .inl (G.2.1 2, n, .inl f2))] s.heap.size = A at hD hcx ⊢
  have hA : ∀ q : Nat, s.heap.size ≤ q → A q := fun q h => by rw [← hAe]; exact Or.inr h
  have hS : va_S A s.heap s.heap [] := va_S.rf
  have hts := hcx.now.1 [.ref h, .int len].toArray
  have hK := hcx.now.2.1
  have hl := lv_entry ([.ref h, .int len]) (n := 2) (Nat.le_of_ble_eq_true rfl)
  rw [lg_entry_eq]
  generalize (lg_sl ([.ref h, .int len]) ++ List.replicate (2 - (lg_sl ([.ref h, .int len])).length) Slot.unset).toArray = ls at hl ⊢
  have hl : lv_has ls 2 [(0, .ref h), (1, .int len)] := hl
  unfold wp_Ly_append at hw
  refine lv_aload_n hx hb d_Ly_append_0 rfl (lv_at hl 0 rfl) ?_
  have hPc := hP.sub (ws' := [(h, .inr (0, [.int rm, .ref a1, .ref a2, .ref a3, .int cnt, .int us])), (a1, .inl (G.2.1 0, n, .inl f0)), (a2, .inl (G.2.1 0, n, .inl f1)), (a3, .inl (G.2.1 2, n, .inl f2))]) [0, 1, 2, 3] rfl
  refine pu_i (va_runV (As := []) (rest := []) ⟨hx, hb, hml, hown, hts⟩ (c_Ly_isFull l G h a1 a2 a3 n rm cnt us f0 f1 f2) (cwV 0 hts (gi_V ml_Ly_36 im_Ly_isFull se_Ly_isFull ini_Ly co_Ly_isFull) rfl rfl rfl (by decide +kernel) ⟨Nat.le_of_ble_eq_true rfl, Nat.le_of_ble_eq_true rfl⟩) ⟨cp_blind, va_recv hK hPc (ci := 0) (q0 := 0) rfl rfl, cp_pre hcx hS hPc⟩ rfl rfl hl.1 rfl (lv_room (Nat.le_of_ble_eq_true rfl)) d_Ly_append_1 ⟨Nat.le_of_ble_eq_true rfl, Nat.le_of_ble_eq_true rfl⟩) hS hP (fun H locs hP hS => ?_)
  refine lv_if_eq (tgt := 9) hx hb d_Ly_append_4 (by decide) (fun c_1 => ?_) (fun c_1 => ?_)
  · replace hw := hw.1 c_1
    refine lv_aload_n hx hb d_Ly_append_9 rfl (lv_at hl 0 rfl) ?_
    refine va_get (D := G.1) (ci := 0) (v := .ref a1) (C := R_Ly) (T := T_Ly) (N := 6) hx hb hts in_Ly hown hK hP 0 rfl rfl 1 (by decide) (hts _ fl_Ly_15) (fun _ h9 => h9) rfl d_Ly_append_10 ?_
    refine lv_aload_n hx hb d_Ly_append_13 rfl (lv_at hl 0 rfl) ?_
    refine va_get (D := G.1) (ci := 0) (v := .int cnt) (C := R_Ly) (T := T_Ly) (N := 6) hx hb hts in_Ly hown hK hP 0 rfl rfl 4 (by decide) (hts _ fl_Ly_26) (fun _ h9 => h9) rfl d_Ly_append_14 ?_
    refine lv_aload_n hx hb d_Ly_append_17 rfl (lv_at hl 0 rfl) ?_
    refine va_get (D := G.1) (ci := 0) (v := .int us) (C := R_Ly) (T := T_Ly) (N := 6) hx hb hts in_Ly hown hK hP 0 rfl rfl 5 (by decide) (hts _ fl_Ly_29) (fun _ h9 => h9) rfl d_Ly_append_18 ?_
    obtain ⟨h_2, hw⟩ := hw
    obtain ⟨a_3, ea_3⟩ : ∃ z, z = upd f0 cnt.toNatClampNeg us := ⟨_, rfl⟩
    replace hw := hw a_3 ea_3
    refine va_iast hx hb hK hP hD hS 1 0 rfl rfl h_2 d_Ly_append_21 (fun H locs hP hD hS => ?_)
    rw [← ea_3] at hP hD
    have hP : va_P G.1 vwC [(h, .inr (0, [.int rm, .ref a1, .ref a2, .ref a3, .int cnt, .int us])), (a1, .inl (G.2.1 0, n, .inl a_3)), (a2, .inl (G.2.1 0, n, .inl f1)), (a3, .inl (G.2.1 2, n, .inl f2))] H := hP
    have hD : va_D A [(h, .inr (0, [.int rm, .ref a1, .ref a2, .ref a3, .int cnt, .int us])), (a1, .inl (G.2.1 0, n, .inl a_3)), (a2, .inl (G.2.1 0, n, .inl f1)), (a3, .inl (G.2.1 2, n, .inl f2))] := hD
    refine lv_aload_n hx hb d_Ly_append_22 rfl (lv_at hl 0 rfl) ?_
    refine va_get (D := G.1) (ci := 0) (v := .ref a2) (C := R_Ly) (T := T_Ly) (N := 6) hx hb hts in_Ly hown hK hP 0 rfl rfl 2 (by decide) (hts _ fl_Ly_19) (fun _ h9 => h9) rfl d_Ly_append_23 ?_
    refine lv_aload_n hx hb d_Ly_append_26 rfl (lv_at hl 0 rfl) ?_
    refine va_get (D := G.1) (ci := 0) (v := .int cnt) (C := R_Ly) (T := T_Ly) (N := 6) hx hb hts in_Ly hown hK hP 0 rfl rfl 4 (by decide) (hts _ fl_Ly_26) (fun _ h9 => h9) rfl d_Ly_append_27 ?_
    refine lv_iload_n hx hb d_Ly_append_30 rfl (lv_at hl 1 rfl) ?_
    obtain ⟨h_4, hw⟩ := hw
    obtain ⟨a_5, ea_5⟩ : ∃ z, z = upd f1 cnt.toNatClampNeg len := ⟨_, rfl⟩
    replace hw := hw a_5 ea_5
    refine va_iast hx hb hK hP hD hS 2 0 rfl rfl h_4 d_Ly_append_31 (fun H locs hP hD hS => ?_)
    rw [← ea_5] at hP hD
    have hP : va_P G.1 vwC [(h, .inr (0, [.int rm, .ref a1, .ref a2, .ref a3, .int cnt, .int us])), (a1, .inl (G.2.1 0, n, .inl a_3)), (a2, .inl (G.2.1 0, n, .inl a_5)), (a3, .inl (G.2.1 2, n, .inl f2))] H := hP
    have hD : va_D A [(h, .inr (0, [.int rm, .ref a1, .ref a2, .ref a3, .int cnt, .int us])), (a1, .inl (G.2.1 0, n, .inl a_3)), (a2, .inl (G.2.1 0, n, .inl a_5)), (a3, .inl (G.2.1 2, n, .inl f2))] := hD
    refine lv_aload_n hx hb d_Ly_append_32 rfl (lv_at hl 0 rfl) ?_
    refine lv_dup hx hb d_Ly_append_33 rfl ?_
    refine va_get (D := G.1) (ci := 0) (v := .int us) (C := R_Ly) (T := T_Ly) (N := 6) hx hb hts in_Ly hown hK hP 0 rfl rfl 5 (by decide) (hts _ fl_Ly_29) (fun _ h9 => h9) rfl d_Ly_append_34 ?_
    refine lv_iload_n hx hb d_Ly_append_37 rfl (lv_at hl 1 rfl) ?_
    refine lv_iadd hx hb d_Ly_append_38 ?_
    refine lv_topi (fun x_6 ex_6 => ?_)
    replace hw := hw x_6 ex_6
    refine va_put (D := G.1) (ci := 0) (v := .int x_6) (ty := (.int)) (C := R_Ly) (T := T_Ly) (N := 6) hx hb hts in_Ly ty_Ly tk_Ly nm_Ly hown hK hP hD hS 0 rfl rfl 5 (by decide) (hts _ fl_Ly_29) (fun _ h9 => h9) rfl (by decide +kernel) rfl rfl (Nat.le_of_ble_eq_true rfl) d_Ly_append_39 (fun H locs hP hD hS => ?_)
    have hP : va_P G.1 vwC [(h, .inr (0, [.int rm, .ref a1, .ref a2, .ref a3, .int cnt, .int x_6])), (a1, .inl (G.2.1 0, n, .inl a_3)), (a2, .inl (G.2.1 0, n, .inl a_5)), (a3, .inl (G.2.1 2, n, .inl f2))] H := hP
    have hD : va_D A [(h, .inr (0, [.int rm, .ref a1, .ref a2, .ref a3, .int cnt, .int x_6])), (a1, .inl (G.2.1 0, n, .inl a_3)), (a2, .inl (G.2.1 0, n, .inl a_5)), (a3, .inl (G.2.1 2, n, .inl f2))] := hD
    refine lv_aload_n hx hb d_Ly_append_42 rfl (lv_at hl 0 rfl) ?_
    refine lv_dup hx hb d_Ly_append_43 rfl ?_
    refine va_get (D := G.1) (ci := 0) (v := .int cnt) (C := R_Ly) (T := T_Ly) (N := 6) hx hb hts in_Ly hown hK hP 0 rfl rfl 4 (by decide) (hts _ fl_Ly_26) (fun _ h9 => h9) rfl d_Ly_append_44 ?_
    refine lv_iconst (v := 1) hx hb d_Ly_append_47 (by decide) ?_
    refine lv_iadd hx hb d_Ly_append_48 ?_
    refine lv_topi (fun x_7 ex_7 => ?_)
    replace hw := hw x_7 ex_7
    refine va_put (D := G.1) (ci := 0) (v := .int x_7) (ty := (.int)) (C := R_Ly) (T := T_Ly) (N := 6) hx hb hts in_Ly ty_Ly tk_Ly nm_Ly hown hK hP hD hS 0 rfl rfl 4 (by decide) (hts _ fl_Ly_26) (fun _ h9 => h9) rfl (by decide +kernel) rfl rfl (Nat.le_of_ble_eq_true rfl) d_Ly_append_49 (fun H locs hP hD hS => ?_)
    have hP : va_P G.1 vwC [(h, .inr (0, [.int rm, .ref a1, .ref a2, .ref a3, .int x_7, .int x_6])), (a1, .inl (G.2.1 0, n, .inl a_3)), (a2, .inl (G.2.1 0, n, .inl a_5)), (a3, .inl (G.2.1 2, n, .inl f2))] H := hP
    have hD : va_D A [(h, .inr (0, [.int rm, .ref a1, .ref a2, .ref a3, .int x_7, .int x_6])), (a1, .inl (G.2.1 0, n, .inl a_3)), (a2, .inl (G.2.1 0, n, .inl a_5)), (a3, .inl (G.2.1 2, n, .inl f2))] := hD
    refine lv_aload_n hx hb d_Ly_append_52 rfl (lv_at hl 0 rfl) ?_
    refine va_get (D := G.1) (ci := 0) (v := .int x_7) (C := R_Ly) (T := T_Ly) (N := 6) hx hb hts in_Ly hown hK hP 0 rfl rfl 4 (by decide) (hts _ fl_Ly_26) (fun _ h9 => h9) rfl d_Ly_append_53 ?_
    refine lv_iconst (v := 1) hx hb d_Ly_append_56 (by decide) ?_
    refine lv_isub hx hb d_Ly_append_57 ?_
    exact W.iret (v := x_7 - 1) hx hb hr (fun t ht hW => ⟨⟨x_7 - 1, (a_3, a_5, x_7, x_6), rfl, hw, by have h9 := hP; rw [← ht] at h9; exact h9⟩, hS.F ht⟩) hS.2.2 d_Ly_append_58
  · replace hw := hw.2 c_1
    refine lv_iconst (v := (-1)) hx hb d_Ly_append_7 (by decide) ?_
    exact W.iret (v := (-1)) hx hb hr (fun t ht hW => ⟨⟨(-1), (f0, f1, cnt, us), rfl, hw, by have h9 := hP; rw [← ht] at h9; exact h9⟩, hS.F ht⟩) hS.2.2 d_Ly_append_8
theorem c_Ly_append (l : Launch) (G : cxT) (h : Nat) (a1 : Nat) (a2 : Nat) (a3 : Nat) (n : Nat) (rm : Int32) (cnt : Int32) (us : Int32) (f0 : Nat → Int32) (f1 : Nat → Int32) (f2 : Nat → Int32) (len : Int32) (sz : Nat) (h0 : vp_in cnt n) (h1 : ly_full cnt n = 0) : Met l y_Ly_append [.code y_Ly_append b_Ly_append 2 (some .int)] ({ frames := 1, cells := 0, slots := 0, locals := 40 } : Room) (cm G [.ref h, .int len] [(h, .inr (0, [.int rm, .ref a1, .ref a2, .ref a3, .int cnt, .int us])), (a1, .inl (G.2.1 0, n, .inl f0)), (a2, .inl (G.2.1 0, n, .inl f1)), (a3, .inl (G.2.1 2, n, .inl f2))] sz) (va_Qi (fun r u => r = cnt ∧ u = ((upd f0 cnt.toNatClampNeg us), (upd f1 cnt.toNatClampNeg len), (cnt + 1), (us + len))) (fun u t => va_P G.1 vwC [(h, .inr (0, [.int rm, .ref a1, .ref a2, .ref a3, .int u.2.2.1, .int u.2.2.2])), (a1, .inl (G.2.1 0, n, .inl u.1)), (a2, .inl (G.2.1 0, n, .inl u.2.1)), (a3, .inl (G.2.1 2, n, .inl f2))] t.heap) (va_A [(h, .inr (0, [.int rm, .ref a1, .ref a2, .ref a3, .int cnt, .int us])), (a1, .inl (G.2.1 0, n, .inl f0)), (a2, .inl (G.2.1 0, n, .inl f1)), (a3, .inl (G.2.1 2, n, .inl f2))] sz)) 0 0 (va_A [(h, .inr (0, [.int rm, .ref a1, .ref a2, .ref a3, .int cnt, .int us])), (a1, .inl (G.2.1 0, n, .inl f0)), (a2, .inl (G.2.1 0, n, .inl f1)), (a3, .inl (G.2.1 2, n, .inl f2))] sz) :=
  t_Ly_append l G h a1 a2 a3 n rm cnt us f0 f1 f2 len sz (fun r u => r = cnt ∧ u = ((upd f0 cnt.toNatClampNeg us), (upd f1 cnt.toNatClampNeg len), (cnt + 1), (us + len))) (by
    unfold wp_Ly_append
    exact ⟨fun _ => ⟨h0, fun a ea => ⟨h0, fun b eb x ex z ez => ⟨by rw [ez]; simp, by rw [ea, eb, ex, ez]⟩⟩⟩, fun c => absurd h1 c⟩)
def wp_Ly_widen_23 (post : ((Nat → Int32) × (Nat → Int32) × Int32) → Prop) (n : Nat) (k : Int32) (d : Int32) (rm : Int32) (cnt : Int32) (us : Int32) (f1 : Nat → Int32) (f2 : Nat → Int32) : Nat → Int32 → (Nat → Int32) → Prop
  | 0 => fun _ _ => False
  | n9 + 1 => fun x3 f0 => ((cnt ≤ x3 → (∀ x_102 : Int32, x_102 = us + d → (post (f0, f1, x_102)))) ∧ (¬ cnt ≤ x3 → ((vp_in x3 n) ∧ ((vp_in x3 n) ∧ ∀ a_105 : Nat → Int32, a_105 = upd f0 x3.toNatClampNeg ((f0 x3.toNatClampNeg) + d) → (∀ x_106 : Int32, x_106 = x3 + 1 → (wp_Ly_widen_23 post n k d rm cnt us f1 f2 n9 x_106 a_105))))))
set_option maxHeartbeats 4000000 in
set_option maxRecDepth 100000 in
theorem l_Ly_widen_23 {p : Program} {l : Launch} {e : Env} {s : State} {m : MethodId} {args : Array Value} {below : List Frame} {meth : Method} {c : Code} (G : cxT) (h : Nat) (a1 : Nat) (a2 : Nat) (a3 : Nat) (A : Nat → Prop) (post : ((Nat → Int32) × (Nat → Int32) × Int32) → Prop) (n : Nat) (k : Int32) (d : Int32) (rm : Int32) (cnt : Int32) (us : Int32) (f1 : Nat → Int32) (f2 : Nat → Int32) (hx : p.tables.exec = Jvm.exec) (hb : c.code = b_Ly_widen) (hr : meth.sig.returnType = none) (hml : c.maxLocals = 4) (hown : s.vm.findClass R_Ly = some m.cls) (hlocks : meth.locks = false) (hcx : cx G A s) (hA : ∀ q : Nat, s.heap.size ≤ q → A q) :
    ∀ (n9 : Nat) (x3 : Int32) (f0 : Nat → Int32), wp_Ly_widen_23 post n k d rm cnt us f1 f2 n9 x3 f0 → ∀ (H : Heap) (locs : List Loc), va_P G.1 vwC [(h, .inr (0, [.int rm, .ref a1, .ref a2, .ref a3, .int cnt, .int us])), (a1, .inl (G.2.1 0, n, .inl f0)), (a2, .inl (G.2.1 0, n, .inl f1)), (a3, .inl (G.2.1 2, n, .inl f2))] H → va_D A [(h, .inr (0, [.int rm, .ref a1, .ref a2, .ref a3, .int cnt, .int us])), (a1, .inl (G.2.1 0, n, .inl f0)), (a2, .inl (G.2.1 0, n, .inl f1)), (a3, .inl (G.2.1 2, n, .inl f2))] → va_S A s.heap H locs → ∀ (ls : Array Slot), lv_has ls 4 [(0, .ref h), (1, .int k), (2, .int d), (3, .int x3)] → W p l e (headSpec [.code y_Ly_widen b_Ly_widen 4 none] ({ frames := 1, cells := 0, slots := 0, locals := 40 } : Room)).room s m args below meth c H locs 0 0 (MQ below (va_Qv post (fun u t => va_P G.1 vwC [(h, .inr (0, [.int rm, .ref a1, .ref a2, .ref a3, .int cnt, .int u.2.2])), (a1, .inl (G.2.1 0, n, .inl u.1)), (a2, .inl (G.2.1 0, n, .inl u.2.1)), (a3, .inl (G.2.1 2, n, .inl f2))] t.heap) A) args s 0 0 A) (F0 m 23 ls []) := by
  have hts := hcx.now.1 args
  have hK := hcx.now.2.1
  intro n9
  induction n9 with
  | zero =>
    intro x3 f0 hw
    exact hw.elim
  | succ n9 ih =>
    intro x3 f0 hw H locs hP hD hS ls hl
    unfold wp_Ly_widen_23 at hw
    refine lv_iload_n hx hb d_Ly_widen_23 rfl (lv_at hl 3 rfl) ?_
    refine lv_aload_n hx hb d_Ly_widen_24 rfl (lv_at hl 0 rfl) ?_
    refine va_get (D := G.1) (ci := 0) (v := .int cnt) (C := R_Ly) (T := T_Ly) (N := 6) hx hb hts in_Ly hown hK hP 0 rfl rfl 4 (by decide) (hts _ fl_Ly_26) (fun _ h9 => h9) rfl d_Ly_widen_25 ?_
    refine lv_icmp_ge (tgt := 47) hx hb d_Ly_widen_28 (by decide) (fun c_101 => ?_) (fun c_101 => ?_)
    · replace hw := hw.1 c_101
      refine lv_aload_n hx hb d_Ly_widen_47 rfl (lv_at hl 0 rfl) ?_
      refine lv_dup hx hb d_Ly_widen_48 rfl ?_
      refine va_get (D := G.1) (ci := 0) (v := .int us) (C := R_Ly) (T := T_Ly) (N := 6) hx hb hts in_Ly hown hK hP 0 rfl rfl 5 (by decide) (hts _ fl_Ly_29) (fun _ h9 => h9) rfl d_Ly_widen_49 ?_
      refine lv_iload_n hx hb d_Ly_widen_52 rfl (lv_at hl 2 rfl) ?_
      refine lv_iadd hx hb d_Ly_widen_53 ?_
      refine lv_topi (fun x_102 ex_102 => ?_)
      replace hw := hw x_102 ex_102
      refine va_put (D := G.1) (ci := 0) (v := .int x_102) (ty := (.int)) (C := R_Ly) (T := T_Ly) (N := 6) hx hb hts in_Ly ty_Ly tk_Ly nm_Ly hown hK hP hD hS 0 rfl rfl 5 (by decide) (hts _ fl_Ly_29) (fun _ h9 => h9) rfl (by decide +kernel) rfl rfl (Nat.le_of_ble_eq_true rfl) d_Ly_widen_54 (fun H locs hP hD hS => ?_)
      have hP : va_P G.1 vwC [(h, .inr (0, [.int rm, .ref a1, .ref a2, .ref a3, .int cnt, .int x_102])), (a1, .inl (G.2.1 0, n, .inl f0)), (a2, .inl (G.2.1 0, n, .inl f1)), (a3, .inl (G.2.1 2, n, .inl f2))] H := hP
      have hD : va_D A [(h, .inr (0, [.int rm, .ref a1, .ref a2, .ref a3, .int cnt, .int x_102])), (a1, .inl (G.2.1 0, n, .inl f0)), (a2, .inl (G.2.1 0, n, .inl f1)), (a3, .inl (G.2.1 2, n, .inl f2))] := hD
      exact W.vret hx hb hr (fun t ht hW => ⟨⟨(f0, f1, x_102), rfl, hw, by have h9 := hP; rw [← ht] at h9; exact h9⟩, hS.F ht⟩) hS.2.2 d_Ly_widen_57
    · replace hw := hw.2 c_101
      refine lv_aload_n hx hb d_Ly_widen_31 rfl (lv_at hl 0 rfl) ?_
      refine va_get (D := G.1) (ci := 0) (v := .ref a1) (C := R_Ly) (T := T_Ly) (N := 6) hx hb hts in_Ly hown hK hP 0 rfl rfl 1 (by decide) (hts _ fl_Ly_15) (fun _ h9 => h9) rfl d_Ly_widen_32 ?_
      refine lv_iload_n hx hb d_Ly_widen_35 rfl (lv_at hl 3 rfl) ?_
      refine lv_dup2_11 hx hb d_Ly_widen_36 rfl rfl ?_
      obtain ⟨h_103, hw⟩ := hw
      refine va_iald hx hb hK hP 1 0 rfl rfl h_103 d_Ly_widen_37 ?_
      refine lv_iload_n hx hb d_Ly_widen_38 rfl (lv_at hl 2 rfl) ?_
      refine lv_iadd hx hb d_Ly_widen_39 ?_
      obtain ⟨h_104, hw⟩ := hw
      obtain ⟨a_105, ea_105⟩ : ∃ z, z = upd f0 x3.toNatClampNeg ((f0 x3.toNatClampNeg) + d) := ⟨_, rfl⟩
      replace hw := hw a_105 ea_105
      refine va_iast hx hb hK hP hD hS 1 0 rfl rfl h_104 d_Ly_widen_40 (fun H locs hP hD hS => ?_)
      rw [← ea_105] at hP hD
      have hP : va_P G.1 vwC [(h, .inr (0, [.int rm, .ref a1, .ref a2, .ref a3, .int cnt, .int us])), (a1, .inl (G.2.1 0, n, .inl a_105)), (a2, .inl (G.2.1 0, n, .inl f1)), (a3, .inl (G.2.1 2, n, .inl f2))] H := hP
      have hD : va_D A [(h, .inr (0, [.int rm, .ref a1, .ref a2, .ref a3, .int cnt, .int us])), (a1, .inl (G.2.1 0, n, .inl a_105)), (a2, .inl (G.2.1 0, n, .inl f1)), (a3, .inl (G.2.1 2, n, .inl f2))] := hD
      obtain ⟨x_106, ex_106⟩ : ∃ y : Int32, y = x3 + 1 := ⟨_, rfl⟩
      replace hw := hw x_106 ex_106
      refine lv_iinc (v := x_106) (lv' := [(3, .int x_106), (0, .ref h), (1, .int k), (2, .int d)]) hx hb d_Ly_widen_41 hl (k := 3) rfl (by rw [ex_106]; rfl) (by decide) rfl (fun ls hl => ?_)
      refine lv_goto (tgt := 23) hx hb d_Ly_widen_44 (by decide) ?_
      exact ih x_106 a_105 hw _ _ hP hD hS ls (lv_sub hl [1, 2, 3, 0] rfl)
def wp_Ly_widen (post : ((Nat → Int32) × (Nat → Int32) × Int32) → Prop) (n : Nat) (rm : Int32) (cnt : Int32) (us : Int32) (f0 : Nat → Int32) (f1 : Nat → Int32) (f2 : Nat → Int32) (k : Int32) (d : Int32) : Prop := ((¬ ly_has cnt k = 0 → ((vp_in k n) ∧ ((vp_in k n) ∧ ∀ a_4 : Nat → Int32, a_4 = upd f1 k.toNatClampNeg ((f1 k.toNatClampNeg) + d) → (∀ x_5 : Int32, x_5 = k + 1 → (∃ n9 : Nat, wp_Ly_widen_23 post n k d rm cnt us a_4 f2 n9 x_5 f0))))) ∧ (ly_has cnt k = 0 → (post (f0, f1, us))))
set_option maxHeartbeats 4000000 in
set_option maxRecDepth 100000 in
theorem t_Ly_widen (l : Launch) (G : cxT) (h : Nat) (a1 : Nat) (a2 : Nat) (a3 : Nat) (n : Nat) (rm : Int32) (cnt : Int32) (us : Int32) (f0 : Nat → Int32) (f1 : Nat → Int32) (f2 : Nat → Int32) (k : Int32) (d : Int32) (sz : Nat) (post : ((Nat → Int32) × (Nat → Int32) × Int32) → Prop) (hw : wp_Ly_widen post n rm cnt us f0 f1 f2 k d) : Met l y_Ly_widen [.code y_Ly_widen b_Ly_widen 4 none] ({ frames := 1, cells := 0, slots := 0, locals := 40 } : Room) (cm G [.ref h, .int k, .int d] [(h, .inr (0, [.int rm, .ref a1, .ref a2, .ref a3, .int cnt, .int us])), (a1, .inl (G.2.1 0, n, .inl f0)), (a2, .inl (G.2.1 0, n, .inl f1)), (a3, .inl (G.2.1 2, n, .inl f2))] sz) (va_Qv post (fun u t => va_P G.1 vwC [(h, .inr (0, [.int rm, .ref a1, .ref a2, .ref a3, .int cnt, .int u.2.2])), (a1, .inl (G.2.1 0, n, .inl u.1)), (a2, .inl (G.2.1 0, n, .inl u.2.1)), (a3, .inl (G.2.1 2, n, .inl f2))] t.heap) (va_A [(h, .inr (0, [.int rm, .ref a1, .ref a2, .ref a3, .int cnt, .int us])), (a1, .inl (G.2.1 0, n, .inl f0)), (a2, .inl (G.2.1 0, n, .inl f1)), (a3, .inl (G.2.1 2, n, .inl f2))] sz)) 0 0 (va_A [(h, .inr (0, [.int rm, .ref a1, .ref a2, .ref a3, .int cnt, .int us])), (a1, .inl (G.2.1 0, n, .inl f0)), (a2, .inl (G.2.1 0, n, .inl f1)), (a3, .inl (G.2.1 2, n, .inl f2))] sz) := by
  refine Met.ofW (cc := b_Ly_widen) (maxL := 4) (ret := none) (by decide +kernel) rfl ?_
  intro p e s m args below meth c s₁ B hml hv
  obtain ⟨rfl, hsz, hcx, hP, hD0⟩ := hv
  have hx := B.exec
  have hb := B.bytes
  have hr := B.returns
  have hlocks := B.notSynchronized
  have hown : s.vm.findClass R_Ly = some m.cls := findClass_of_methodNamed B.named
  subst hsz
  have hD := hD0.self (sz := s.heap.size)
  generalize hAe : va_A [(h, .inr (0, [.int rm, .ref a1, .ref a2, .ref a3, .int cnt, .int us])), (a1, .inl (G.2.1 0, n, .inl f0)), (a2, .inl (G.2.1 0, n, .inl f1)), (a3, .inl (G.2.1 2, n, .inl f2))] s.heap.size = A at hD hcx ⊢
  have hA : ∀ q : Nat, s.heap.size ≤ q → A q := fun q h => by rw [← hAe]; exact Or.inr h
  have hS : va_S A s.heap s.heap [] := va_S.rf
  have hts := hcx.now.1 [.ref h, .int k, .int d].toArray
  have hK := hcx.now.2.1
  have hl := lv_entry ([.ref h, .int k, .int d]) (n := 4) (Nat.le_of_ble_eq_true rfl)
  rw [lg_entry_eq]
  generalize (lg_sl ([.ref h, .int k, .int d]) ++ List.replicate (4 - (lg_sl ([.ref h, .int k, .int d])).length) Slot.unset).toArray = ls at hl ⊢
  have hl : lv_has ls 4 [(0, .ref h), (1, .int k), (2, .int d)] := hl
  unfold wp_Ly_widen at hw
  refine lv_aload_n hx hb d_Ly_widen_0 rfl (lv_at hl 0 rfl) ?_
  refine lv_iload_n hx hb d_Ly_widen_1 rfl (lv_at hl 1 rfl) ?_
  have hPc := hP.sub (ws' := [(h, .inr (0, [.int rm, .ref a1, .ref a2, .ref a3, .int cnt, .int us])), (a1, .inl (G.2.1 0, n, .inl f0)), (a2, .inl (G.2.1 0, n, .inl f1)), (a3, .inl (G.2.1 2, n, .inl f2))]) [0, 1, 2, 3] rfl
  refine pu_i (va_runV (As := [.int k]) (rest := []) ⟨hx, hb, hml, hown, hts⟩ (c_Ly_has l G h a1 a2 a3 n rm cnt us f0 f1 f2 k) (cwV 1 hts (gi_V ml_Ly_32 im_Ly_has se_Ly_has ini_Ly co_Ly_has) rfl rfl rfl (by decide +kernel) ⟨Nat.le_of_ble_eq_true rfl, Nat.le_of_ble_eq_true rfl⟩) ⟨cp_blind, va_recv hK hPc (ci := 0) (q0 := 0) rfl rfl, cp_pre hcx hS hPc⟩ rfl rfl hl.1 rfl (lv_room (Nat.le_of_ble_eq_true rfl)) d_Ly_widen_2 ⟨Nat.le_of_ble_eq_true rfl, Nat.le_of_ble_eq_true rfl⟩) hS hP (fun H locs hP hS => ?_)
  refine lv_if_ne (tgt := 9) hx hb d_Ly_widen_5 (by decide) (fun c_1 => ?_) (fun c_1 => ?_)
  · replace hw := hw.1 c_1
    refine lv_aload_n hx hb d_Ly_widen_9 rfl (lv_at hl 0 rfl) ?_
    refine va_get (D := G.1) (ci := 0) (v := .ref a2) (C := R_Ly) (T := T_Ly) (N := 6) hx hb hts in_Ly hown hK hP 0 rfl rfl 2 (by decide) (hts _ fl_Ly_19) (fun _ h9 => h9) rfl d_Ly_widen_10 ?_
    refine lv_iload_n hx hb d_Ly_widen_13 rfl (lv_at hl 1 rfl) ?_
    refine lv_dup2_11 hx hb d_Ly_widen_14 rfl rfl ?_
    obtain ⟨h_2, hw⟩ := hw
    refine va_iald hx hb hK hP 2 0 rfl rfl h_2 d_Ly_widen_15 ?_
    refine lv_iload_n hx hb d_Ly_widen_16 rfl (lv_at hl 2 rfl) ?_
    refine lv_iadd hx hb d_Ly_widen_17 ?_
    obtain ⟨h_3, hw⟩ := hw
    obtain ⟨a_4, ea_4⟩ : ∃ z, z = upd f1 k.toNatClampNeg ((f1 k.toNatClampNeg) + d) := ⟨_, rfl⟩
    replace hw := hw a_4 ea_4
    refine va_iast hx hb hK hP hD hS 2 0 rfl rfl h_3 d_Ly_widen_18 (fun H locs hP hD hS => ?_)
    rw [← ea_4] at hP hD
    have hP : va_P G.1 vwC [(h, .inr (0, [.int rm, .ref a1, .ref a2, .ref a3, .int cnt, .int us])), (a1, .inl (G.2.1 0, n, .inl f0)), (a2, .inl (G.2.1 0, n, .inl a_4)), (a3, .inl (G.2.1 2, n, .inl f2))] H := hP
    have hD : va_D A [(h, .inr (0, [.int rm, .ref a1, .ref a2, .ref a3, .int cnt, .int us])), (a1, .inl (G.2.1 0, n, .inl f0)), (a2, .inl (G.2.1 0, n, .inl a_4)), (a3, .inl (G.2.1 2, n, .inl f2))] := hD
    refine lv_iload_n hx hb d_Ly_widen_19 rfl (lv_at hl 1 rfl) ?_
    refine lv_iconst (v := 1) hx hb d_Ly_widen_20 (by decide) ?_
    refine lv_iadd hx hb d_Ly_widen_21 ?_
    refine lv_topi (fun x_5 ex_5 => ?_)
    replace hw := hw x_5 ex_5
    refine lv_istore_n (lv' := [(3, .int x_5), (0, .ref h), (1, .int k), (2, .int d)]) hx hb d_Ly_widen_22 rfl hl (by decide) rfl (fun ls hl => ?_)
    obtain ⟨n9, hw⟩ := hw
    exact l_Ly_widen_23 G h a1 a2 a3 A post n k d rm cnt us a_4 f2 hx hb hr hml hown hlocks hcx hA n9 x_5 f0 hw _ _ hP hD hS ls (lv_sub hl [1, 2, 3, 0] rfl)
  · replace hw := hw.2 c_1
    exact W.vret hx hb hr (fun t ht hW => ⟨⟨(f0, f1, us), rfl, hw, by have h9 := hP; rw [← ht] at h9; exact h9⟩, hS.F ht⟩) hS.2.2 d_Ly_widen_8
def wp_Ly_giveUp (post : ((Nat → Int32) × (Nat → Int32)) → Prop) (n : Nat) (rm : Int32) (cnt : Int32) (us : Int32) (f0 : Nat → Int32) (f1 : Nat → Int32) (f2 : Nat → Int32) (k : Int32) : Prop := ((ly_has cnt k = 0 → (post (f1, f2))) ∧ (¬ ly_has cnt k = 0 → ((vp_in k n) ∧ ∀ a_3 : Nat → Int32, a_3 = upd f1 k.toNatClampNeg 0 → ((vp_in k n) ∧ ∀ a_5 : Nat → Int32, a_5 = upd f2 k.toNatClampNeg (vp_nar .boolean 1) → (post (a_3, a_5))))))
set_option maxHeartbeats 4000000 in
set_option maxRecDepth 100000 in
theorem t_Ly_giveUp (l : Launch) (G : cxT) (h : Nat) (a1 : Nat) (a2 : Nat) (a3 : Nat) (n : Nat) (rm : Int32) (cnt : Int32) (us : Int32) (f0 : Nat → Int32) (f1 : Nat → Int32) (f2 : Nat → Int32) (k : Int32) (sz : Nat) (post : ((Nat → Int32) × (Nat → Int32)) → Prop) (hw : wp_Ly_giveUp post n rm cnt us f0 f1 f2 k) : Met l y_Ly_giveUp [.code y_Ly_giveUp b_Ly_giveUp 2 none] ({ frames := 1, cells := 0, slots := 0, locals := 40 } : Room) (cm G [.ref h, .int k] [(h, .inr (0, [.int rm, .ref a1, .ref a2, .ref a3, .int cnt, .int us])), (a1, .inl (G.2.1 0, n, .inl f0)), (a2, .inl (G.2.1 0, n, .inl f1)), (a3, .inl (G.2.1 2, n, .inl f2))] sz) (va_Qv post (fun u t => va_P G.1 vwC [(h, .inr (0, [.int rm, .ref a1, .ref a2, .ref a3, .int cnt, .int us])), (a1, .inl (G.2.1 0, n, .inl f0)), (a2, .inl (G.2.1 0, n, .inl u.1)), (a3, .inl (G.2.1 2, n, .inl u.2))] t.heap) (va_A [(h, .inr (0, [.int rm, .ref a1, .ref a2, .ref a3, .int cnt, .int us])), (a1, .inl (G.2.1 0, n, .inl f0)), (a2, .inl (G.2.1 0, n, .inl f1)), (a3, .inl (G.2.1 2, n, .inl f2))] sz)) 0 0 (va_A [(h, .inr (0, [.int rm, .ref a1, .ref a2, .ref a3, .int cnt, .int us])), (a1, .inl (G.2.1 0, n, .inl f0)), (a2, .inl (G.2.1 0, n, .inl f1)), (a3, .inl (G.2.1 2, n, .inl f2))] sz) := by
  refine Met.ofW (cc := b_Ly_giveUp) (maxL := 2) (ret := none) (by decide +kernel) rfl ?_
  intro p e s m args below meth c s₁ B hml hv
  obtain ⟨rfl, hsz, hcx, hP, hD0⟩ := hv
  have hx := B.exec
  have hb := B.bytes
  have hr := B.returns
  have hlocks := B.notSynchronized
  have hown : s.vm.findClass R_Ly = some m.cls := findClass_of_methodNamed B.named
  subst hsz
  have hD := hD0.self (sz := s.heap.size)
  generalize hAe : va_A [(h, .inr (0, [.int rm, .ref a1, .ref a2, .ref a3, .int cnt, .int us])), (a1, .inl (G.2.1 0, n, .inl f0)), (a2, .inl (G.2.1 0, n, .inl f1)), (a3, .inl (G.2.1 2, n, .inl f2))] s.heap.size = A at hD hcx ⊢
  have hA : ∀ q : Nat, s.heap.size ≤ q → A q := fun q h => by rw [← hAe]; exact Or.inr h
  have hS : va_S A s.heap s.heap [] := va_S.rf
  have hts := hcx.now.1 [.ref h, .int k].toArray
  have hK := hcx.now.2.1
  have hl := lv_entry ([.ref h, .int k]) (n := 2) (Nat.le_of_ble_eq_true rfl)
  rw [lg_entry_eq]
  generalize (lg_sl ([.ref h, .int k]) ++ List.replicate (2 - (lg_sl ([.ref h, .int k])).length) Slot.unset).toArray = ls at hl ⊢
  have hl : lv_has ls 2 [(0, .ref h), (1, .int k)] := hl
  unfold wp_Ly_giveUp at hw
  refine lv_aload_n hx hb d_Ly_giveUp_0 rfl (lv_at hl 0 rfl) ?_
  refine lv_iload_n hx hb d_Ly_giveUp_1 rfl (lv_at hl 1 rfl) ?_
  have hPc := hP.sub (ws' := [(h, .inr (0, [.int rm, .ref a1, .ref a2, .ref a3, .int cnt, .int us])), (a1, .inl (G.2.1 0, n, .inl f0)), (a2, .inl (G.2.1 0, n, .inl f1)), (a3, .inl (G.2.1 2, n, .inl f2))]) [0, 1, 2, 3] rfl
  refine pu_i (va_runV (As := [.int k]) (rest := []) ⟨hx, hb, hml, hown, hts⟩ (c_Ly_has l G h a1 a2 a3 n rm cnt us f0 f1 f2 k) (cwV 1 hts (gi_V ml_Ly_32 im_Ly_has se_Ly_has ini_Ly co_Ly_has) rfl rfl rfl (by decide +kernel) ⟨Nat.le_of_ble_eq_true rfl, Nat.le_of_ble_eq_true rfl⟩) ⟨cp_blind, va_recv hK hPc (ci := 0) (q0 := 0) rfl rfl, cp_pre hcx hS hPc⟩ rfl rfl hl.1 rfl (lv_room (Nat.le_of_ble_eq_true rfl)) d_Ly_giveUp_2 ⟨Nat.le_of_ble_eq_true rfl, Nat.le_of_ble_eq_true rfl⟩) hS hP (fun H locs hP hS => ?_)
  refine lv_if_eq (tgt := 22) hx hb d_Ly_giveUp_5 (by decide) (fun c_1 => ?_) (fun c_1 => ?_)
  · replace hw := hw.1 c_1
    exact W.vret hx hb hr (fun t ht hW => ⟨⟨(f1, f2), rfl, hw, by have h9 := hP; rw [← ht] at h9; exact h9⟩, hS.F ht⟩) hS.2.2 d_Ly_giveUp_22
  · replace hw := hw.2 c_1
    refine lv_aload_n hx hb d_Ly_giveUp_8 rfl (lv_at hl 0 rfl) ?_
    refine va_get (D := G.1) (ci := 0) (v := .ref a2) (C := R_Ly) (T := T_Ly) (N := 6) hx hb hts in_Ly hown hK hP 0 rfl rfl 2 (by decide) (hts _ fl_Ly_19) (fun _ h9 => h9) rfl d_Ly_giveUp_9 ?_
    refine lv_iload_n hx hb d_Ly_giveUp_12 rfl (lv_at hl 1 rfl) ?_
    refine lv_iconst (v := 0) hx hb d_Ly_giveUp_13 (by decide) ?_
    obtain ⟨h_2, hw⟩ := hw
    obtain ⟨a_3, ea_3⟩ : ∃ z, z = upd f1 k.toNatClampNeg 0 := ⟨_, rfl⟩
    replace hw := hw a_3 ea_3
    refine va_iast hx hb hK hP hD hS 2 0 rfl rfl h_2 d_Ly_giveUp_14 (fun H locs hP hD hS => ?_)
    rw [← ea_3] at hP hD
    have hP : va_P G.1 vwC [(h, .inr (0, [.int rm, .ref a1, .ref a2, .ref a3, .int cnt, .int us])), (a1, .inl (G.2.1 0, n, .inl f0)), (a2, .inl (G.2.1 0, n, .inl a_3)), (a3, .inl (G.2.1 2, n, .inl f2))] H := hP
    have hD : va_D A [(h, .inr (0, [.int rm, .ref a1, .ref a2, .ref a3, .int cnt, .int us])), (a1, .inl (G.2.1 0, n, .inl f0)), (a2, .inl (G.2.1 0, n, .inl a_3)), (a3, .inl (G.2.1 2, n, .inl f2))] := hD
    refine lv_aload_n hx hb d_Ly_giveUp_15 rfl (lv_at hl 0 rfl) ?_
    refine va_get (D := G.1) (ci := 0) (v := .ref a3) (C := R_Ly) (T := T_Ly) (N := 6) hx hb hts in_Ly hown hK hP 0 rfl rfl 3 (by decide) (hts _ fl_Ly_22) (fun _ h9 => h9) rfl d_Ly_giveUp_16 ?_
    refine lv_iload_n hx hb d_Ly_giveUp_19 rfl (lv_at hl 1 rfl) ?_
    refine lv_iconst (v := 1) hx hb d_Ly_giveUp_20 (by decide) ?_
    obtain ⟨h_4, hw⟩ := hw
    obtain ⟨a_5, ea_5⟩ : ∃ z, z = upd f2 k.toNatClampNeg (vp_nar .boolean 1) := ⟨_, rfl⟩
    replace hw := hw a_5 ea_5
    refine va_zast hx hb hK hP hD hS 3 2 rfl rfl h_4 d_Ly_giveUp_21 (fun H locs hP hD hS => ?_)
    rw [← ea_5] at hP hD
    have hP : va_P G.1 vwC [(h, .inr (0, [.int rm, .ref a1, .ref a2, .ref a3, .int cnt, .int us])), (a1, .inl (G.2.1 0, n, .inl f0)), (a2, .inl (G.2.1 0, n, .inl a_3)), (a3, .inl (G.2.1 2, n, .inl a_5))] H := hP
    have hD : va_D A [(h, .inr (0, [.int rm, .ref a1, .ref a2, .ref a3, .int cnt, .int us])), (a1, .inl (G.2.1 0, n, .inl f0)), (a2, .inl (G.2.1 0, n, .inl a_3)), (a3, .inl (G.2.1 2, n, .inl a_5))] := hD
    exact W.vret hx hb hr (fun t ht hW => ⟨⟨(a_3, a_5), rfl, hw, by have h9 := hP; rw [← ht] at h9; exact h9⟩, hS.F ht⟩) hS.2.2 d_Ly_giveUp_22
theorem c_Ly_giveUp (l : Launch) (G : cxT) (h : Nat) (a1 : Nat) (a2 : Nat) (a3 : Nat) (n : Nat) (rm : Int32) (cnt : Int32) (us : Int32) (f0 : Nat → Int32) (f1 : Nat → Int32) (f2 : Nat → Int32) (k : Int32) (sz : Nat) (h0 : cnt.toInt ≤ n) (h1 : ¬ ly_has cnt k = 0) : Met l y_Ly_giveUp [.code y_Ly_giveUp b_Ly_giveUp 2 none] ({ frames := 1, cells := 0, slots := 0, locals := 40 } : Room) (cm G [.ref h, .int k] [(h, .inr (0, [.int rm, .ref a1, .ref a2, .ref a3, .int cnt, .int us])), (a1, .inl (G.2.1 0, n, .inl f0)), (a2, .inl (G.2.1 0, n, .inl f1)), (a3, .inl (G.2.1 2, n, .inl f2))] sz) (va_Qv (fun u => u = ((upd f1 k.toNatClampNeg 0), (upd f2 k.toNatClampNeg 1))) (fun u t => va_P G.1 vwC [(h, .inr (0, [.int rm, .ref a1, .ref a2, .ref a3, .int cnt, .int us])), (a1, .inl (G.2.1 0, n, .inl f0)), (a2, .inl (G.2.1 0, n, .inl u.1)), (a3, .inl (G.2.1 2, n, .inl u.2))] t.heap) (va_A [(h, .inr (0, [.int rm, .ref a1, .ref a2, .ref a3, .int cnt, .int us])), (a1, .inl (G.2.1 0, n, .inl f0)), (a2, .inl (G.2.1 0, n, .inl f1)), (a3, .inl (G.2.1 2, n, .inl f2))] sz)) 0 0 (va_A [(h, .inr (0, [.int rm, .ref a1, .ref a2, .ref a3, .int cnt, .int us])), (a1, .inl (G.2.1 0, n, .inl f0)), (a2, .inl (G.2.1 0, n, .inl f1)), (a3, .inl (G.2.1 2, n, .inl f2))] sz) :=
  t_Ly_giveUp l G h a1 a2 a3 n rm cnt us f0 f1 f2 k sz (fun u => u = ((upd f1 k.toNatClampNeg 0), (upd f2 k.toNatClampNeg 1))) (by
    unfold wp_Ly_giveUp
    exact ⟨fun c => absurd c h1, fun c => ⟨ly_has_in c h0, fun a ea => ⟨ly_has_in c h0, fun b eb => by rw [ea, eb]; rfl⟩⟩⟩)
