theorem ly_widen_loop {post : ((Nat → Int32) × (Nat → Int32) × Int32) → Prop} {n c k : Nat} {d us rm : Int32} {f1 f2 : Nat → Int32} (g : Nat → Int32) (hc : c ≤ n) (hn : n < 2 ^ 31) (hk : k < c)
    (H : post (ly_shift g k c d, f1, us + d)) : ∃ m, wp_Ly_widen_23 post n (nI k) d rm (nI c) us f1 f2 m (nI (k + 1)) g := by
  refine Exists.elim (pk_loop (fun m i f => wp_Ly_widen_23 post n (nI k) d rm (nI c) us f1 f2 m (nI i) f) (fun i f => k < i ∧ f = ly_shift g k i d) c (k + 1) g (by omega) ⟨by omega, ?_⟩ ?_ ?_) (fun m hm => ⟨m, hm⟩)
  · funext j
    unfold ly_shift
    rw [if_neg (by omega)]
  · intro m f hf
    unfold wp_Ly_widen_23
    refine ⟨fun _ => fun x ex => ?_, fun h => absurd (nI_le (Nat.le_refl c) (by omega)) h⟩
    rw [ex, hf.2]
    exact H
  · intro m i f hi hf ih
    unfold wp_Ly_widen_23
    refine ⟨fun h => absurd h (nI_ge hi (by omega)), fun _ => ⟨vp_in_nI (by omega) hn, vp_in_nI (by omega) hn, fun a ea x ex => ?_⟩⟩
    rw [nI_clamp (by omega)] at ea
    rw [ex, nI_1]
    refine ih _ ⟨by omega, ?_⟩
    rw [ea, hf.2]
    funext j
    unfold ly_shift upd
    by_cases hj : j = i
    · subst hj
      rw [if_pos rfl, if_neg (by omega), if_pos (by omega)]
    · rw [if_neg hj]
      dsimp only
      by_cases h1 : k < j ∧ j < i
      · rw [if_pos h1, if_pos (by omega)]
      · rw [if_neg h1, if_neg (by omega)]

theorem ly_has_nat {cnt k : Int32} (h : ¬ ly_has cnt k = 0) : ∃ j c : Nat, j < c ∧ c < 2 ^ 31 ∧ k = nI j ∧ cnt = nI c := by
  unfold ly_has at h
  by_cases h1 : k < 0
  · simp [h1] at h
  · by_cases h2 : cnt ≤ k
    · simp [h1, h2] at h
    · obtain ⟨j, hj, rfl⟩ := nI_of h1
      rw [Int32.le_iff_toInt_le, nI_toInt hj] at h2
      obtain ⟨c, hc, rfl⟩ := nI_of (x := cnt) (by rw [Int32.lt_iff_toInt_lt]; have e : (0 : Int32).toInt = 0 := rfl; omega)
      rw [nI_toInt hc] at h2
      exact ⟨j, c, by omega, hc, rfl, rfl⟩
theorem ly_shift_last (f0 : Nat → Int32) (c : Nat) (d : Int32) : ly_shift f0 (c - 1) c d = f0 := by
  funext j
  unfold ly_shift
  rw [if_neg (by omega)]
theorem ly_has_last {cnt : Int32} (h : ¬ cnt ≤ 0) : ¬ ly_has cnt (cnt - 1) = 0 := by
  rw [Int32.le_iff_toInt_le] at h
  have e : (0 : Int32).toInt = 0 := rfl
  obtain ⟨j, hj, rfl⟩ := nI_of (x := cnt) (by rw [Int32.lt_iff_toInt_lt]; omega)
  rw [nI_toInt hj] at h
  obtain ⟨i, rfl⟩ : ∃ i, j = i + 1 := ⟨j - 1, by omega⟩
  rw [nI_pred]
  unfold ly_has
  rw [if_neg (nI_pos (by omega)), if_neg (nI_ge (by omega) (by omega))]
  decide

theorem c_Ly_widen (l : Launch) (G : cxT) (h : Nat) (a1 : Nat) (a2 : Nat) (a3 : Nat) (n : Nat) (rm : Int32) (cnt : Int32) (us : Int32) (f0 : Nat → Int32) (f1 : Nat → Int32) (f2 : Nat → Int32) (k : Int32) (d : Int32) (sz : Nat) (h0 : cnt.toInt ≤ n) (h1 : ¬ ly_has cnt k = 0) (h2 : n < 2147483648) : Met l y_Ly_widen [.code y_Ly_widen b_Ly_widen 4 none] ({ frames := 1, cells := 0, slots := 0, locals := 40 } : Room) (cm G [.ref h, .int k, .int d] [(h, .inr (0, [.int rm, .ref a1, .ref a2, .ref a3, .int cnt, .int us])), (a1, .inl (G.2.1 0, n, .inl f0)), (a2, .inl (G.2.1 0, n, .inl f1)), (a3, .inl (G.2.1 2, n, .inl f2))] sz) (va_Qv (fun u => u = ((ly_shift f0 k.toNatClampNeg cnt.toNatClampNeg d), (upd f1 k.toNatClampNeg (f1 k.toNatClampNeg + d)), (us + d))) (fun u t => va_P G.1 vwC [(h, .inr (0, [.int rm, .ref a1, .ref a2, .ref a3, .int cnt, .int u.2.2])), (a1, .inl (G.2.1 0, n, .inl u.1)), (a2, .inl (G.2.1 0, n, .inl u.2.1)), (a3, .inl (G.2.1 2, n, .inl f2))] t.heap) (va_A [(h, .inr (0, [.int rm, .ref a1, .ref a2, .ref a3, .int cnt, .int us])), (a1, .inl (G.2.1 0, n, .inl f0)), (a2, .inl (G.2.1 0, n, .inl f1)), (a3, .inl (G.2.1 2, n, .inl f2))] sz)) 0 0 (va_A [(h, .inr (0, [.int rm, .ref a1, .ref a2, .ref a3, .int cnt, .int us])), (a1, .inl (G.2.1 0, n, .inl f0)), (a2, .inl (G.2.1 0, n, .inl f1)), (a3, .inl (G.2.1 2, n, .inl f2))] sz) :=
  t_Ly_widen l G h a1 a2 a3 n rm cnt us f0 f1 f2 k d sz (fun u => u = ((ly_shift f0 k.toNatClampNeg cnt.toNatClampNeg d), (upd f1 k.toNatClampNeg (f1 k.toNatClampNeg + d)), (us + d))) (by
    unfold wp_Ly_widen
    refine ⟨fun c1 => ⟨ly_has_in c1 h0, ly_has_in c1 h0, fun a ea x ex => ?_⟩, fun c1 => absurd c1 h1⟩
    obtain ⟨j, c, h3, h4, rfl, rfl⟩ := ly_has_nat h1
    rw [nI_toInt h4] at h0
    have e1 : (nI j).toNatClampNeg = j := nI_clamp (by omega)
    have e2 : (nI c).toNatClampNeg = c := nI_clamp h4
    rw [e1] at ea
    rw [ex, nI_1, ea]
    refine ly_widen_loop f0 (by omega) h2 h3 ?_
    rw [e1, e2])
def wp_Ly_take (post : Int32 → ((Nat → Int32) × (Nat → Int32) × Int32 × Int32) → Prop) (n : Nat) (rm : Int32) (cnt : Int32) (us : Int32) (f0 : Nat → Int32) (f1 : Nat → Int32) (f2 : Nat → Int32) (km : Int32) (mo : Int32) : Prop := ((¬ mo = 0 → ((cnt.toInt ≤ n) ∧ ((¬ ly_has cnt (cnt - 1) = 0) ∧ ((n < 2147483648) ∧ (∀ u_5 : Nat → Int32, u_5 = ly_shift f0 (cnt - 1).toNatClampNeg cnt.toNatClampNeg km → (∀ u_6 : Nat → Int32, u_6 = upd f1 (cnt - 1).toNatClampNeg (f1 (cnt - 1).toNatClampNeg + km) → (∀ u_7 : Int32, u_7 = us + km → (post (cnt - 1) (u_5, u_6, cnt, u_7))))))))) ∧ (mo = 0 → ((vp_in cnt n) ∧ ((ly_full cnt n = 0) ∧ (∀ u_10 : Nat → Int32, u_10 = upd f0 cnt.toNatClampNeg us → (∀ u_11 : Nat → Int32, u_11 = upd f1 cnt.toNatClampNeg km → (∀ u_12 : Int32, u_12 = cnt + 1 → (∀ u_13 : Int32, u_13 = us + km → (post cnt (u_10, u_11, u_12, u_13))))))))))
set_option maxHeartbeats 4000000 in
set_option maxRecDepth 100000 in
theorem t_Ly_take (l : Launch) (G : cxT) (h : Nat) (a1 : Nat) (a2 : Nat) (a3 : Nat) (n : Nat) (rm : Int32) (cnt : Int32) (us : Int32) (f0 : Nat → Int32) (f1 : Nat → Int32) (f2 : Nat → Int32) (km : Int32) (mo : Int32) (sz : Nat) (post : Int32 → ((Nat → Int32) × (Nat → Int32) × Int32 × Int32) → Prop) (hw : wp_Ly_take post n rm cnt us f0 f1 f2 km mo) : Met l y_Ly_take [.code y_Ly_take b_Ly_take 3 (some .int)] ({ frames := 2, cells := 0, slots := 0, locals := 80 } : Room) (cm G [.ref h, .int km, .int mo] [(h, .inr (0, [.int rm, .ref a1, .ref a2, .ref a3, .int cnt, .int us])), (a1, .inl (G.2.1 0, n, .inl f0)), (a2, .inl (G.2.1 0, n, .inl f1)), (a3, .inl (G.2.1 2, n, .inl f2))] sz) (va_Qi post (fun u t => va_P G.1 vwC [(h, .inr (0, [.int rm, .ref a1, .ref a2, .ref a3, .int u.2.2.1, .int u.2.2.2])), (a1, .inl (G.2.1 0, n, .inl u.1)), (a2, .inl (G.2.1 0, n, .inl u.2.1)), (a3, .inl (G.2.1 2, n, .inl f2))] t.heap) (va_A [(h, .inr (0, [.int rm, .ref a1, .ref a2, .ref a3, .int cnt, .int us])), (a1, .inl (G.2.1 0, n, .inl f0)), (a2, .inl (G.2.1 0, n, .inl f1)), (a3, .inl (G.2.1 2, n, .inl f2))] sz)) 0 0 (va_A [(h, .inr (0, [.int rm, .ref a1, .ref a2, .ref a3, .int cnt, .int us])), (a1, .inl (G.2.1 0, n, .inl f0)), (a2, .inl (G.2.1 0, n, .inl f1)), (a3, .inl (G.2.1 2, n, .inl f2))] sz) := by
  refine Met.ofW (cc := b_Ly_take) (maxL := 3) (ret := (some .int)) (by decide +kernel) rfl ?_
  intro p e s m args below meth c s₁ B hml hv
  obtain ⟨rfl, hsz, hcx, hP, hD0⟩ := hv
  have hx := B.exec
  have hb := B.bytes
  have hr := B.returns
  have hlocks := B.notSynchronized
  have hown : s.vm.findClass R_Ly = some m.cls := findClass_of_methodNamed B.named
  subst hsz
  have hD := hD0.self (sz := s.heap.size)
  generalize hAe : va_A [(h, .inr (0, [.int rm, .ref a1, .ref a2, .ref a3, .int cnt, .int us])), (a1, .inl (G.2.1 0, n, .inl f0)), (a2, .inl (G.2.1 0, n, .inl f1)), (a3, .inl (G.2.1 2, n, .inl f2))] s.heap.size = A at hD hcx ⊢
  have hA : ∀ q : Nat, s.heap.size ≤ q → A q := fun q h => by rw [← hAe]; exact Or.inr h
  have hS : va_S A s.heap s.heap [] := va_S.rf
  have hts := hcx.now.1 [.ref h, .int km, .int mo].toArray
  have hK := hcx.now.2.1
  have hl := lv_entry ([.ref h, .int km, .int mo]) (n := 3) (Nat.le_of_ble_eq_true rfl)
  rw [lg_entry_eq]
  generalize (lg_sl ([.ref h, .int km, .int mo]) ++ List.replicate (3 - (lg_sl ([.ref h, .int km, .int mo])).length) Slot.unset).toArray = ls at hl ⊢
  have hl : lv_has ls 3 [(0, .ref h), (1, .int km), (2, .int mo)] := hl
  unfold wp_Ly_take at hw
  refine lv_iload_n hx hb d_Ly_take_0 rfl (lv_at hl 2 rfl) ?_
  refine lv_if_ne (tgt := 10) hx hb d_Ly_take_1 (by decide) (fun c_1 => ?_) (fun c_1 => ?_)
  · replace hw := hw.1 c_1
    refine lv_aload_n hx hb d_Ly_take_10 rfl (lv_at hl 0 rfl) ?_
    refine lv_aload_n hx hb d_Ly_take_11 rfl (lv_at hl 0 rfl) ?_
    refine va_get (D := G.1) (ci := 0) (v := .int cnt) (C := R_Ly) (T := T_Ly) (N := 6) hx hb hts in_Ly hown hK hP 0 rfl rfl 4 (by decide) (hts _ fl_Ly_26) (fun _ h9 => h9) rfl d_Ly_take_12 ?_
    refine lv_iconst (v := 1) hx hb d_Ly_take_15 (by decide) ?_
    refine lv_isub hx hb d_Ly_take_16 ?_
    refine lv_iload_n hx hb d_Ly_take_17 rfl (lv_at hl 1 rfl) ?_
    obtain ⟨h_2, hw⟩ := hw
    obtain ⟨h_3, hw⟩ := hw
    obtain ⟨h_4, hw⟩ := hw
    have hPc := hP.sub (ws' := [(h, .inr (0, [.int rm, .ref a1, .ref a2, .ref a3, .int cnt, .int us])), (a1, .inl (G.2.1 0, n, .inl f0)), (a2, .inl (G.2.1 0, n, .inl f1)), (a3, .inl (G.2.1 2, n, .inl f2))]) [0, 1, 2, 3] rfl
    have hDc := hD.sub (ws' := [(h, .inr (0, [.int rm, .ref a1, .ref a2, .ref a3, .int cnt, .int us])), (a1, .inl (G.2.1 0, n, .inl f0)), (a2, .inl (G.2.1 0, n, .inl f1)), (a3, .inl (G.2.1 2, n, .inl f2))]) [0, 1, 2, 3] (by decide) rfl
    have hFc := va_free (wc := [(h, .inr (0, [.int rm, .ref a1, .ref a2, .ref a3, .int cnt, .int us])), (a1, .inl (G.2.1 0, n, .inl f0)), (a2, .inl (G.2.1 0, n, .inl f1)), (a3, .inl (G.2.1 2, n, .inl f2))]) hD hS hA [0, 1, 2, 3] rfl
    refine ip_v (va_runV (As := [.int (cnt - 1), .int km]) (rest := []) ⟨hx, hb, hml, hown, hts⟩ (c_Ly_widen l G h a1 a2 a3 n rm cnt us f0 f1 f2 (cnt - 1) km _ h_2 h_3 h_4) (cwV 2 hts (gi_V ml_Ly_48 im_Ly_widen se_Ly_widen ini_Ly co_Ly_widen) rfl rfl rfl (by decide +kernel) ⟨Nat.le_of_ble_eq_true rfl, Nat.le_of_ble_eq_true rfl⟩) ⟨cm_blind, va_recv hK hPc (ci := 0) (q0 := 0) rfl rfl, cm_pre hcx hS hPc hDc hFc⟩ rfl rfl hl.1 rfl (lv_room (Nat.le_of_ble_eq_true rfl)) d_Ly_take_18 ⟨Nat.le_of_ble_eq_true rfl, Nat.le_of_ble_eq_true rfl⟩) hS hP hD hA [0, 1, 2, 3] rfl (fun _ => rfl) (fun u9 H locs hp hP hD hS => ?_)
    replace hp := hp.symm; subst hp
    obtain ⟨u_5, eu_5⟩ : ∃ z : Nat → Int32, z = ly_shift f0 (cnt - 1).toNatClampNeg cnt.toNatClampNeg km := ⟨_, rfl⟩
    replace hw := hw u_5 eu_5
    obtain ⟨u_6, eu_6⟩ : ∃ z : Nat → Int32, z = upd f1 (cnt - 1).toNatClampNeg (f1 (cnt - 1).toNatClampNeg + km) := ⟨_, rfl⟩
    replace hw := hw u_6 eu_6
    obtain ⟨u_7, eu_7⟩ : ∃ z : Int32, z = us + km := ⟨_, rfl⟩
    replace hw := hw u_7 eu_7
    have hP : va_P G.1 vwC [(h, .inr (0, [.int rm, .ref a1, .ref a2, .ref a3, .int cnt, .int (us + km)])), (a1, .inl (G.2.1 0, n, .inl (ly_shift f0 (cnt - 1).toNatClampNeg cnt.toNatClampNeg km))), (a2, .inl (G.2.1 0, n, .inl (upd f1 (cnt - 1).toNatClampNeg (f1 (cnt - 1).toNatClampNeg + km)))), (a3, .inl (G.2.1 2, n, .inl f2))] H := hP
    have hD : va_D A [(h, .inr (0, [.int rm, .ref a1, .ref a2, .ref a3, .int cnt, .int (us + km)])), (a1, .inl (G.2.1 0, n, .inl (ly_shift f0 (cnt - 1).toNatClampNeg cnt.toNatClampNeg km))), (a2, .inl (G.2.1 0, n, .inl (upd f1 (cnt - 1).toNatClampNeg (f1 (cnt - 1).toNatClampNeg + km)))), (a3, .inl (G.2.1 2, n, .inl f2))] := hD
    have hP : va_P G.1 vwC [(h, .inr (0, [.int rm, .ref a1, .ref a2, .ref a3, .int cnt, .int u_7])), (a1, .inl (G.2.1 0, n, .inl u_5)), (a2, .inl (G.2.1 0, n, .inl u_6)), (a3, .inl (G.2.1 2, n, .inl f2))] H := by rw [eu_5]; rw [eu_6]; rw [eu_7]; exact hP
    have hD : va_D A [(h, .inr (0, [.int rm, .ref a1, .ref a2, .ref a3, .int cnt, .int u_7])), (a1, .inl (G.2.1 0, n, .inl u_5)), (a2, .inl (G.2.1 0, n, .inl u_6)), (a3, .inl (G.2.1 2, n, .inl f2))] := by rw [eu_5]; rw [eu_6]; rw [eu_7]; exact hD
    refine lv_aload_n hx hb d_Ly_take_21 rfl (lv_at hl 0 rfl) ?_
    refine va_get (D := G.1) (ci := 0) (v := .int cnt) (C := R_Ly) (T := T_Ly) (N := 6) hx hb hts in_Ly hown hK hP 0 rfl rfl 4 (by decide) (hts _ fl_Ly_26) (fun _ h9 => h9) rfl d_Ly_take_22 ?_
    refine lv_iconst (v := 1) hx hb d_Ly_take_25 (by decide) ?_
    refine lv_isub hx hb d_Ly_take_26 ?_
    exact W.iret (v := cnt - 1) hx hb hr (fun t ht hW => ⟨⟨cnt - 1, (u_5, u_6, cnt, u_7), rfl, hw, by have h9 := hP; rw [← ht] at h9; exact h9⟩, hS.F ht⟩) hS.2.2 d_Ly_take_27
  · replace hw := hw.2 c_1
    refine lv_aload_n hx hb d_Ly_take_4 rfl (lv_at hl 0 rfl) ?_
    refine lv_iload_n hx hb d_Ly_take_5 rfl (lv_at hl 1 rfl) ?_
    obtain ⟨h_8, hw⟩ := hw
    obtain ⟨h_9, hw⟩ := hw
    have hPc := hP.sub (ws' := [(h, .inr (0, [.int rm, .ref a1, .ref a2, .ref a3, .int cnt, .int us])), (a1, .inl (G.2.1 0, n, .inl f0)), (a2, .inl (G.2.1 0, n, .inl f1)), (a3, .inl (G.2.1 2, n, .inl f2))]) [0, 1, 2, 3] rfl
    have hDc := hD.sub (ws' := [(h, .inr (0, [.int rm, .ref a1, .ref a2, .ref a3, .int cnt, .int us])), (a1, .inl (G.2.1 0, n, .inl f0)), (a2, .inl (G.2.1 0, n, .inl f1)), (a3, .inl (G.2.1 2, n, .inl f2))]) [0, 1, 2, 3] (by decide) rfl
    have hFc := va_free (wc := [(h, .inr (0, [.int rm, .ref a1, .ref a2, .ref a3, .int cnt, .int us])), (a1, .inl (G.2.1 0, n, .inl f0)), (a2, .inl (G.2.1 0, n, .inl f1)), (a3, .inl (G.2.1 2, n, .inl f2))]) hD hS hA [0, 1, 2, 3] rfl
    refine ip_i (va_runV (As := [.int km]) (rest := []) ⟨hx, hb, hml, hown, hts⟩ (c_Ly_append l G h a1 a2 a3 n rm cnt us f0 f1 f2 km _ h_8 h_9) (cwV 1 hts (gi_V ml_Ly_44 im_Ly_append se_Ly_append ini_Ly co_Ly_append) rfl rfl rfl (by decide +kernel) ⟨Nat.le_of_ble_eq_true rfl, Nat.le_of_ble_eq_true rfl⟩) ⟨cm_blind, va_recv hK hPc (ci := 0) (q0 := 0) rfl rfl, cm_pre hcx hS hPc hDc hFc⟩ rfl rfl hl.1 rfl (lv_room (Nat.le_of_ble_eq_true rfl)) d_Ly_take_6 ⟨Nat.le_of_ble_eq_true rfl, Nat.le_of_ble_eq_true rfl⟩) hS hP hD hA [0, 1, 2, 3] rfl (fun _ => rfl) (fun r9 u9 H locs hp hP hD hS => ?_)
    obtain ⟨e91, e92⟩ := hp; replace e91 := e91.symm; replace e92 := e92.symm; subst e91; subst e92
    obtain ⟨u_10, eu_10⟩ : ∃ z : Nat → Int32, z = upd f0 cnt.toNatClampNeg us := ⟨_, rfl⟩
    replace hw := hw u_10 eu_10
    obtain ⟨u_11, eu_11⟩ : ∃ z : Nat → Int32, z = upd f1 cnt.toNatClampNeg km := ⟨_, rfl⟩
    replace hw := hw u_11 eu_11
    obtain ⟨u_12, eu_12⟩ : ∃ z : Int32, z = cnt + 1 := ⟨_, rfl⟩
    replace hw := hw u_12 eu_12
    obtain ⟨u_13, eu_13⟩ : ∃ z : Int32, z = us + km := ⟨_, rfl⟩
    replace hw := hw u_13 eu_13
    have hP : va_P G.1 vwC [(h, .inr (0, [.int rm, .ref a1, .ref a2, .ref a3, .int (cnt + 1), .int (us + km)])), (a1, .inl (G.2.1 0, n, .inl (upd f0 cnt.toNatClampNeg us))), (a2, .inl (G.2.1 0, n, .inl (upd f1 cnt.toNatClampNeg km))), (a3, .inl (G.2.1 2, n, .inl f2))] H := hP
    have hD : va_D A [(h, .inr (0, [.int rm, .ref a1, .ref a2, .ref a3, .int (cnt + 1), .int (us + km)])), (a1, .inl (G.2.1 0, n, .inl (upd f0 cnt.toNatClampNeg us))), (a2, .inl (G.2.1 0, n, .inl (upd f1 cnt.toNatClampNeg km))), (a3, .inl (G.2.1 2, n, .inl f2))] := hD
    have hP : va_P G.1 vwC [(h, .inr (0, [.int rm, .ref a1, .ref a2, .ref a3, .int u_12, .int u_13])), (a1, .inl (G.2.1 0, n, .inl u_10)), (a2, .inl (G.2.1 0, n, .inl u_11)), (a3, .inl (G.2.1 2, n, .inl f2))] H := by rw [eu_10]; rw [eu_11]; rw [eu_12]; rw [eu_13]; exact hP
    have hD : va_D A [(h, .inr (0, [.int rm, .ref a1, .ref a2, .ref a3, .int u_12, .int u_13])), (a1, .inl (G.2.1 0, n, .inl u_10)), (a2, .inl (G.2.1 0, n, .inl u_11)), (a3, .inl (G.2.1 2, n, .inl f2))] := by rw [eu_10]; rw [eu_11]; rw [eu_12]; rw [eu_13]; exact hD
    exact W.iret (v := cnt) hx hb hr (fun t ht hW => ⟨⟨cnt, (u_10, u_11, u_12, u_13), rfl, hw, by have h9 := hP; rw [← ht] at h9; exact h9⟩, hS.F ht⟩) hS.2.2 d_Ly_take_9
theorem c_Ly_take (l : Launch) (G : cxT) (h : Nat) (a1 : Nat) (a2 : Nat) (a3 : Nat) (n : Nat) (rm : Int32) (cnt : Int32) (us : Int32) (f0 : Nat → Int32) (f1 : Nat → Int32) (f2 : Nat → Int32) (km : Int32) (mo : Int32) (sz : Nat) (h0 : cnt.toInt ≤ n) (h1 : n < 2147483648) (h2 : mo = 0 → vp_in cnt n ∧ ly_full cnt n = 0) (h3 : ¬ mo = 0 → ¬ cnt ≤ 0) : Met l y_Ly_take [.code y_Ly_take b_Ly_take 3 (some .int)] ({ frames := 2, cells := 0, slots := 0, locals := 80 } : Room) (cm G [.ref h, .int km, .int mo] [(h, .inr (0, [.int rm, .ref a1, .ref a2, .ref a3, .int cnt, .int us])), (a1, .inl (G.2.1 0, n, .inl f0)), (a2, .inl (G.2.1 0, n, .inl f1)), (a3, .inl (G.2.1 2, n, .inl f2))] sz) (va_Qi (fun r u => r = (if mo = 0 then cnt else cnt - 1) ∧ u = ((if mo = 0 then upd f0 cnt.toNatClampNeg us else f0), (if mo = 0 then upd f1 cnt.toNatClampNeg km else upd f1 (cnt - 1).toNatClampNeg (f1 (cnt - 1).toNatClampNeg + km)), (if mo = 0 then cnt + 1 else cnt), (us + km))) (fun u t => va_P G.1 vwC [(h, .inr (0, [.int rm, .ref a1, .ref a2, .ref a3, .int u.2.2.1, .int u.2.2.2])), (a1, .inl (G.2.1 0, n, .inl u.1)), (a2, .inl (G.2.1 0, n, .inl u.2.1)), (a3, .inl (G.2.1 2, n, .inl f2))] t.heap) (va_A [(h, .inr (0, [.int rm, .ref a1, .ref a2, .ref a3, .int cnt, .int us])), (a1, .inl (G.2.1 0, n, .inl f0)), (a2, .inl (G.2.1 0, n, .inl f1)), (a3, .inl (G.2.1 2, n, .inl f2))] sz)) 0 0 (va_A [(h, .inr (0, [.int rm, .ref a1, .ref a2, .ref a3, .int cnt, .int us])), (a1, .inl (G.2.1 0, n, .inl f0)), (a2, .inl (G.2.1 0, n, .inl f1)), (a3, .inl (G.2.1 2, n, .inl f2))] sz) :=
  t_Ly_take l G h a1 a2 a3 n rm cnt us f0 f1 f2 km mo sz (fun r u => r = (if mo = 0 then cnt else cnt - 1) ∧ u = ((if mo = 0 then upd f0 cnt.toNatClampNeg us else f0), (if mo = 0 then upd f1 cnt.toNatClampNeg km else upd f1 (cnt - 1).toNatClampNeg (f1 (cnt - 1).toNatClampNeg + km)), (if mo = 0 then cnt + 1 else cnt), (us + km))) (by
    unfold wp_Ly_take
    refine ⟨fun c1 => ?_, fun c1 => ?_⟩
    · have hh := ly_has_last (h3 c1)
      obtain ⟨j, c, q3, q4, q5, q6⟩ := ly_has_nat hh
      have e1 : (cnt - 1).toNatClampNeg = cnt.toNatClampNeg - 1 := by
        subst q6
        rw [q5, nI_clamp (by omega), nI_clamp q4]
        obtain ⟨i, rfl⟩ : ∃ i, c = i + 1 := ⟨c - 1, by omega⟩
        rw [nI_pred, nI_eq (by omega) (by omega)] at q5
        omega
      refine ⟨h0, hh, h1, fun x ex y ey z ez => ?_⟩
      simp only [if_neg c1]
      refine ⟨trivial, ?_⟩
      rw [ex, ey, ez, e1, ly_shift_last]
    · refine ⟨(h2 c1).1, (h2 c1).2, fun x ex y ey z ez w ew => ?_⟩
      simp only [if_pos c1]
      exact ⟨trivial, by rw [ex, ey, ez, ew]⟩)
