def wp_Pm_memory (post : Int32 → ((Nat → Int32) × (Nat → Int32) × Int32 × Int32 × (Nat → Int32)) → Prop) (trp : Int32) (mC : Int32) (mU : Int32) (mS : Nat → Int32) (mL : Nat → Int32) (mD : Nat → Int32) (fml : Nat → Int32) (pg : Int32) (lim : Int32) : Prop := ((¬ ly_full mC 6 = 0 → (post (-1) (mS, mL, mC, mU, fml))) ∧ (ly_full mC 6 = 0 → (((pg < 0 → (post (-1) (mS, mL, mC, mU, fml))) ∧ (¬ pg < 0 → (((lim < pg → (post (-1) (mS, mL, mC, mU, fml))) ∧ (¬ lim < pg → (((65536 < lim → (post (-1) (mS, mL, mC, mU, fml))) ∧ (¬ 65536 < lim → (((pg ≤ (12288 - mU) / 256 → ((vp_in mC 6) ∧ ((ly_full mC 6 = 0) ∧ (∀ u_8 : Nat → Int32, u_8 = upd mS mC.toNatClampNeg mU → (∀ u_9 : Nat → Int32, u_9 = upd mL mC.toNatClampNeg (pg * 256) → (∀ u_10 : Int32, u_10 = mC + 1 → (∀ u_11 : Int32, u_11 = mU + (pg * 256) → ((vp_in mC 6) ∧ ∀ a_13 : Nat → Int32, a_13 = upd fml mC.toNatClampNeg lim → (post mC (u_8, u_9, u_10, u_11, a_13)))))))))) ∧ (¬ pg ≤ (12288 - mU) / 256 → (post (-1) (mS, mL, mC, mU, fml))))))))))))))))
set_option maxHeartbeats 4000000 in
set_option maxRecDepth 100000 in
theorem t_Pm_memory (l : Launch) (G : cxT) (h : Nat) (m0 : Nat) (aml : Nat) (amb : Nat) (t0 : Nat) (atl : Nat) (att : Nat) (ate : Nat) (b0 : Nat) (asb : Nat) (r0 : Nat) (asr : Nat) (m1 : Nat) (m2 : Nat) (m3 : Nat) (trp : Int32) (mC : Int32) (mU : Int32) (mS : Nat → Int32) (mL : Nat → Int32) (mD : Nat → Int32) (fml : Nat → Int32) (pg : Int32) (lim : Int32) (sz : Nat) (post : Int32 → ((Nat → Int32) × (Nat → Int32) × Int32 × Int32 × (Nat → Int32)) → Prop) (hw : wp_Pm_memory post trp mC mU mS mL mD fml pg lim) : Met l y_Pm_memory [.code y_Pm_memory b_Pm_memory 4 (some .int)] ({ frames := 4, cells := 0, slots := 0, locals := 140 } : Room) (cm G [.ref h, .int pg, .int lim] [(h, .inr (1, [.ref m0, .ref aml, .ref amb, .ref t0, .ref atl, .ref att, .ref ate, .ref b0, .ref asb, .ref r0, .ref asr, .int trp])), (m0, .inr (0, [.int 12288, .ref m1, .ref m2, .ref m3, .int mC, .int mU])), (m1, .inl (G.2.1 0, 6, .inl mS)), (m2, .inl (G.2.1 0, 6, .inl mL)), (m3, .inl (G.2.1 2, 6, .inl mD)), (aml, .inl (G.2.1 0, 6, .inl fml))] sz) (va_Qi post (fun u t => va_P G.1 vwC [(h, .inr (1, [.ref m0, .ref aml, .ref amb, .ref t0, .ref atl, .ref att, .ref ate, .ref b0, .ref asb, .ref r0, .ref asr, .int trp])), (m0, .inr (0, [.int 12288, .ref m1, .ref m2, .ref m3, .int u.2.2.1, .int u.2.2.2.1])), (m1, .inl (G.2.1 0, 6, .inl u.1)), (m2, .inl (G.2.1 0, 6, .inl u.2.1)), (m3, .inl (G.2.1 2, 6, .inl mD)), (aml, .inl (G.2.1 0, 6, .inl u.2.2.2.2))] t.heap) (va_A [(h, .inr (1, [.ref m0, .ref aml, .ref amb, .ref t0, .ref atl, .ref att, .ref ate, .ref b0, .ref asb, .ref r0, .ref asr, .int trp])), (m0, .inr (0, [.int 12288, .ref m1, .ref m2, .ref m3, .int mC, .int mU])), (m1, .inl (G.2.1 0, 6, .inl mS)), (m2, .inl (G.2.1 0, 6, .inl mL)), (m3, .inl (G.2.1 2, 6, .inl mD)), (aml, .inl (G.2.1 0, 6, .inl fml))] sz)) 0 0 (va_A [(h, .inr (1, [.ref m0, .ref aml, .ref amb, .ref t0, .ref atl, .ref att, .ref ate, .ref b0, .ref asb, .ref r0, .ref asr, .int trp])), (m0, .inr (0, [.int 12288, .ref m1, .ref m2, .ref m3, .int mC, .int mU])), (m1, .inl (G.2.1 0, 6, .inl mS)), (m2, .inl (G.2.1 0, 6, .inl mL)), (m3, .inl (G.2.1 2, 6, .inl mD)), (aml, .inl (G.2.1 0, 6, .inl fml))] sz) := by
  refine Met.ofW (cc := b_Pm_memory) (maxL := 4) (ret := (some .int)) (by decide +kernel) rfl ?_
  intro p e s m args below meth c s₁ B hml hv
  obtain ⟨rfl, hsz, hcx, hP, hD0⟩ := hv
  have hx := B.exec
  have hb := B.bytes
  have hr := B.returns
  have hlocks := B.notSynchronized
  have hown : s.vm.findClass R_Pm = some m.cls := findClass_of_methodNamed B.named
  subst hsz
  have hD := hD0.self (sz := s.heap.size)
  generalize hAe : va_A [(h, .inr (1, [.ref m0, .ref aml, .ref amb, .ref t0, .ref atl, .ref att, .ref ate, .ref b0, .ref asb, .ref r0, .ref asr, .int trp])), (m0, .inr (0, [.int 12288, .ref m1, .ref m2, .ref m3, .int mC, .int mU])), (m1, .inl (G.2.1 0, 6, .inl mS)), (m2, .inl (G.2.1 0, 6, .inl mL)), (m3, .inl (G.2.1 2, 6, .inl mD)), (aml, .inl (G.2.1 0, 6, .inl fml))] s.heap.size = A at hD hcx ⊢
  have hA : ∀ q : Nat, s.heap.size ≤ q → A q := fun q h => by rw [← hAe]; exact Or.inr h
  have hS : va_S A s.heap s.heap [] := va_S.rf
  have hts := hcx.now.1 [.ref h, .int pg, .int lim].toArray
  have hK := hcx.now.2.1
  have hl := lv_entry ([.ref h, .int pg, .int lim]) (n := 4) (Nat.le_of_ble_eq_true rfl)
  rw [lg_entry_eq]
  generalize (lg_sl ([.ref h, .int pg, .int lim]) ++ List.replicate (4 - (lg_sl ([.ref h, .int pg, .int lim])).length) Slot.unset).toArray = ls at hl ⊢
  have hl : lv_has ls 4 [(0, .ref h), (1, .int pg), (2, .int lim)] := hl
  unfold wp_Pm_memory at hw
  refine lv_aload_n hx hb d_Pm_memory_0 rfl (lv_at hl 0 rfl) ?_
  refine va_get (D := G.1) (ci := 1) (v := .ref m0) (C := R_Pm) (T := T_Pm) (N := 12) hx hb hts in_Pm hown hK hP 0 rfl rfl 0 (by decide) (hts _ fl_Pm_14) (fun _ h9 => h9) rfl d_Pm_memory_1 ?_
  have hPc := hP.sub (ws' := [(m0, .inr (0, [.int 12288, .ref m1, .ref m2, .ref m3, .int mC, .int mU])), (m1, .inl (G.2.1 0, 6, .inl mS)), (m2, .inl (G.2.1 0, 6, .inl mL)), (m3, .inl (G.2.1 2, 6, .inl mD))]) [1, 2, 3, 4] rfl
  refine pu_i (va_runV (As := []) (rest := []) ⟨hx, hb, hml, hown, hts⟩ (c_Ly_isFull l G m0 m1 m2 m3 6 12288 mC mU mS mL mD) (cwV 0 hts (gi_V ml_Pm_54 im_Ly_isFull se_Ly_isFull ini_Ly co_Ly_isFull) rfl rfl rfl (by decide +kernel) ⟨Nat.le_of_ble_eq_true rfl, Nat.le_of_ble_eq_true rfl⟩) ⟨cp_blind, va_recv hK hPc (ci := 0) (q0 := 0) rfl rfl, cp_pre hcx hS hPc⟩ rfl rfl hl.1 rfl (lv_room (Nat.le_of_ble_eq_true rfl)) d_Pm_memory_4 ⟨Nat.le_of_ble_eq_true rfl, Nat.le_of_ble_eq_true rfl⟩) hS hP (fun H locs hP hS => ?_)
  refine lv_if_ne (tgt := 33) hx hb d_Pm_memory_7 (by decide) (fun c_1 => ?_) (fun c_1 => ?_)
  · replace hw := hw.1 c_1
    refine lv_iconst (v := (-1)) hx hb d_Pm_memory_33 (by decide) ?_
    exact W.iret (v := (-1)) hx hb hr (fun t ht hW => ⟨⟨(-1), (mS, mL, mC, mU, fml), rfl, hw, by have h9 := hP; rw [← ht] at h9; exact h9⟩, hS.F ht⟩) hS.2.2 d_Pm_memory_34
  · replace hw := hw.2 c_1
    refine lv_iload_n hx hb d_Pm_memory_10 rfl (lv_at hl 1 rfl) ?_
    refine lv_if_lt (tgt := 33) hx hb d_Pm_memory_11 (by decide) (fun c_2 => ?_) (fun c_2 => ?_)
    · replace hw := hw.1 c_2
      refine lv_iconst (v := (-1)) hx hb d_Pm_memory_33 (by decide) ?_
      exact W.iret (v := (-1)) hx hb hr (fun t ht hW => ⟨⟨(-1), (mS, mL, mC, mU, fml), rfl, hw, by have h9 := hP; rw [← ht] at h9; exact h9⟩, hS.F ht⟩) hS.2.2 d_Pm_memory_34
    · replace hw := hw.2 c_2
      refine lv_iload_n hx hb d_Pm_memory_14 rfl (lv_at hl 1 rfl) ?_
      refine lv_iload_n hx hb d_Pm_memory_15 rfl (lv_at hl 2 rfl) ?_
      refine lv_icmp_gt (tgt := 33) hx hb d_Pm_memory_16 (by decide) (fun c_3 => ?_) (fun c_3 => ?_)
      · replace hw := hw.1 c_3
        refine lv_iconst (v := (-1)) hx hb d_Pm_memory_33 (by decide) ?_
        exact W.iret (v := (-1)) hx hb hr (fun t ht hW => ⟨⟨(-1), (mS, mL, mC, mU, fml), rfl, hw, by have h9 := hP; rw [← ht] at h9; exact h9⟩, hS.F ht⟩) hS.2.2 d_Pm_memory_34
      · replace hw := hw.2 c_3
        refine lv_iload_n hx hb d_Pm_memory_19 rfl (lv_at hl 2 rfl) ?_
        refine lv_ldc (v := 65536) hx hb hown (hts _ k_Pm_58) d_Pm_memory_20 ?_
        refine lv_icmp_gt (tgt := 33) hx hb d_Pm_memory_22 (by decide) (fun c_4 => ?_) (fun c_4 => ?_)
        · replace hw := hw.1 c_4
          refine lv_iconst (v := (-1)) hx hb d_Pm_memory_33 (by decide) ?_
          exact W.iret (v := (-1)) hx hb hr (fun t ht hW => ⟨⟨(-1), (mS, mL, mC, mU, fml), rfl, hw, by have h9 := hP; rw [← ht] at h9; exact h9⟩, hS.F ht⟩) hS.2.2 d_Pm_memory_34
        · replace hw := hw.2 c_4
          refine lv_iload_n hx hb d_Pm_memory_25 rfl (lv_at hl 1 rfl) ?_
          refine lv_aload_n hx hb d_Pm_memory_26 rfl (lv_at hl 0 rfl) ?_
          have hPc := hP.sub (ws' := [(h, .inr (1, [.ref m0, .ref aml, .ref amb, .ref t0, .ref atl, .ref att, .ref ate, .ref b0, .ref asb, .ref r0, .ref asr, .int trp])), (m0, .inr (0, [.int 12288, .ref m1, .ref m2, .ref m3, .int mC, .int mU])), (m1, .inl (G.2.1 0, 6, .inl mS)), (m2, .inl (G.2.1 0, 6, .inl mL)), (m3, .inl (G.2.1 2, 6, .inl mD))]) [0, 1, 2, 3, 4] rfl
          refine pu_i (va_runV (As := []) (rest := [.int pg]) ⟨hx, hb, hml, hown, hts⟩ (c_Pm_pagesLeft l G h m0 aml amb t0 atl att ate b0 asb r0 asr m1 m2 m3 trp mC mU mS mL mD) (cwV 0 hts (gi_V ml_Pm_59 im_Pm_pagesLeft se_Pm_pagesLeft ini_Pm co_Pm_pagesLeft) rfl rfl rfl (by decide +kernel) ⟨Nat.le_of_ble_eq_true rfl, Nat.le_of_ble_eq_true rfl⟩) ⟨cp_blind, va_recv hK hPc (ci := 1) (q0 := 0) rfl rfl, cp_pre hcx hS hPc⟩ rfl rfl hl.1 rfl (lv_room (Nat.le_of_ble_eq_true rfl)) d_Pm_memory_27 ⟨Nat.le_of_ble_eq_true rfl, Nat.le_of_ble_eq_true rfl⟩) hS hP (fun H locs hP hS => ?_)
          refine lv_icmp_le (tgt := 35) hx hb d_Pm_memory_30 (by decide) (fun c_5 => ?_) (fun c_5 => ?_)
          · replace hw := hw.1 c_5
            refine lv_aload_n hx hb d_Pm_memory_35 rfl (lv_at hl 0 rfl) ?_
            refine va_get (D := G.1) (ci := 1) (v := .ref m0) (C := R_Pm) (T := T_Pm) (N := 12) hx hb hts in_Pm hown hK hP 0 rfl rfl 0 (by decide) (hts _ fl_Pm_14) (fun _ h9 => h9) rfl d_Pm_memory_36 ?_
            refine lv_iload_n hx hb d_Pm_memory_39 rfl (lv_at hl 1 rfl) ?_
            refine lv_sipush (v := 256) hx hb d_Pm_memory_40 (by decide) ?_
            refine lv_imul hx hb d_Pm_memory_43 ?_
            obtain ⟨h_6, hw⟩ := hw
            obtain ⟨h_7, hw⟩ := hw
            have hPc := hP.sub (ws' := [(m0, .inr (0, [.int 12288, .ref m1, .ref m2, .ref m3, .int mC, .int mU])), (m1, .inl (G.2.1 0, 6, .inl mS)), (m2, .inl (G.2.1 0, 6, .inl mL)), (m3, .inl (G.2.1 2, 6, .inl mD))]) [1, 2, 3, 4] rfl
            have hDc := hD.sub (ws' := [(m0, .inr (0, [.int 12288, .ref m1, .ref m2, .ref m3, .int mC, .int mU])), (m1, .inl (G.2.1 0, 6, .inl mS)), (m2, .inl (G.2.1 0, 6, .inl mL)), (m3, .inl (G.2.1 2, 6, .inl mD))]) [1, 2, 3, 4] (by decide) rfl
            have hFc := va_free (wc := [(m0, .inr (0, [.int 12288, .ref m1, .ref m2, .ref m3, .int mC, .int mU])), (m1, .inl (G.2.1 0, 6, .inl mS)), (m2, .inl (G.2.1 0, 6, .inl mL)), (m3, .inl (G.2.1 2, 6, .inl mD))]) hD hS hA [1, 2, 3, 4] rfl
            refine ip_i (va_runV (As := [.int (pg * 256)]) (rest := []) ⟨hx, hb, hml, hown, hts⟩ (c_Ly_append l G m0 m1 m2 m3 6 12288 mC mU mS mL mD (pg * 256) _ h_6 h_7) (cwV 1 hts (gi_V ml_Pm_63 im_Ly_append se_Ly_append ini_Ly co_Ly_append) rfl rfl rfl (by decide +kernel) ⟨Nat.le_of_ble_eq_true rfl, Nat.le_of_ble_eq_true rfl⟩) ⟨cm_blind, va_recv hK hPc (ci := 0) (q0 := 0) rfl rfl, cm_pre hcx hS hPc hDc hFc⟩ rfl rfl hl.1 rfl (lv_room (Nat.le_of_ble_eq_true rfl)) d_Pm_memory_44 ⟨Nat.le_of_ble_eq_true rfl, Nat.le_of_ble_eq_true rfl⟩) hS hP hD hA [1, 2, 3, 4] rfl (fun _ => rfl) (fun r9 u9 H locs hp hP hD hS => ?_)
            obtain ⟨e91, e92⟩ := hp; replace e91 := e91.symm; replace e92 := e92.symm; subst e91; subst e92
            obtain ⟨u_8, eu_8⟩ : ∃ z : Nat → Int32, z = upd mS mC.toNatClampNeg mU := ⟨_, rfl⟩
            replace hw := hw u_8 eu_8
            obtain ⟨u_9, eu_9⟩ : ∃ z : Nat → Int32, z = upd mL mC.toNatClampNeg (pg * 256) := ⟨_, rfl⟩
            replace hw := hw u_9 eu_9
            obtain ⟨u_10, eu_10⟩ : ∃ z : Int32, z = mC + 1 := ⟨_, rfl⟩
            replace hw := hw u_10 eu_10
            obtain ⟨u_11, eu_11⟩ : ∃ z : Int32, z = mU + (pg * 256) := ⟨_, rfl⟩
            replace hw := hw u_11 eu_11
            have hP : va_P G.1 vwC [(h, .inr (1, [.ref m0, .ref aml, .ref amb, .ref t0, .ref atl, .ref att, .ref ate, .ref b0, .ref asb, .ref r0, .ref asr, .int trp])), (m0, .inr (0, [.int 12288, .ref m1, .ref m2, .ref m3, .int (mC + 1), .int (mU + (pg * 256))])), (m1, .inl (G.2.1 0, 6, .inl (upd mS mC.toNatClampNeg mU))), (m2, .inl (G.2.1 0, 6, .inl (upd mL mC.toNatClampNeg (pg * 256)))), (m3, .inl (G.2.1 2, 6, .inl mD)), (aml, .inl (G.2.1 0, 6, .inl fml))] H := hP
            have hD : va_D A [(h, .inr (1, [.ref m0, .ref aml, .ref amb, .ref t0, .ref atl, .ref att, .ref ate, .ref b0, .ref asb, .ref r0, .ref asr, .int trp])), (m0, .inr (0, [.int 12288, .ref m1, .ref m2, .ref m3, .int (mC + 1), .int (mU + (pg * 256))])), (m1, .inl (G.2.1 0, 6, .inl (upd mS mC.toNatClampNeg mU))), (m2, .inl (G.2.1 0, 6, .inl (upd mL mC.toNatClampNeg (pg * 256)))), (m3, .inl (G.2.1 2, 6, .inl mD)), (aml, .inl (G.2.1 0, 6, .inl fml))] := hD
            have hP : va_P G.1 vwC [(h, .inr (1, [.ref m0, .ref aml, .ref amb, .ref t0, .ref atl, .ref att, .ref ate, .ref b0, .ref asb, .ref r0, .ref asr, .int trp])), (m0, .inr (0, [.int 12288, .ref m1, .ref m2, .ref m3, .int u_10, .int u_11])), (m1, .inl (G.2.1 0, 6, .inl u_8)), (m2, .inl (G.2.1 0, 6, .inl u_9)), (m3, .inl (G.2.1 2, 6, .inl mD)), (aml, .inl (G.2.1 0, 6, .inl fml))] H := by rw [eu_8]; rw [eu_9]; rw [eu_10]; rw [eu_11]; exact hP
            have hD : va_D A [(h, .inr (1, [.ref m0, .ref aml, .ref amb, .ref t0, .ref atl, .ref att, .ref ate, .ref b0, .ref asb, .ref r0, .ref asr, .int trp])), (m0, .inr (0, [.int 12288, .ref m1, .ref m2, .ref m3, .int u_10, .int u_11])), (m1, .inl (G.2.1 0, 6, .inl u_8)), (m2, .inl (G.2.1 0, 6, .inl u_9)), (m3, .inl (G.2.1 2, 6, .inl mD)), (aml, .inl (G.2.1 0, 6, .inl fml))] := by rw [eu_8]; rw [eu_9]; rw [eu_10]; rw [eu_11]; exact hD
            refine lv_istore_n (lv' := [(3, .int mC), (0, .ref h), (1, .int pg), (2, .int lim)]) hx hb d_Pm_memory_47 rfl hl (by decide) rfl (fun ls hl => ?_)
            refine lv_aload_n hx hb d_Pm_memory_48 rfl (lv_at hl 1 rfl) ?_
            refine va_get (D := G.1) (ci := 1) (v := .ref aml) (C := R_Pm) (T := T_Pm) (N := 12) hx hb hts in_Pm hown hK hP 0 rfl rfl 1 (by decide) (hts _ fl_Pm_18) (fun _ h9 => h9) rfl d_Pm_memory_49 ?_
            refine lv_iload_n hx hb d_Pm_memory_52 rfl (lv_at hl 0 rfl) ?_
            refine lv_iload_n hx hb d_Pm_memory_53 rfl (lv_at hl 3 rfl) ?_
            obtain ⟨h_12, hw⟩ := hw
            obtain ⟨a_13, ea_13⟩ : ∃ z, z = upd fml mC.toNatClampNeg lim := ⟨_, rfl⟩
            replace hw := hw a_13 ea_13
            refine va_iast hx hb hK hP hD hS 5 0 rfl rfl h_12 d_Pm_memory_54 (fun H locs hP hD hS => ?_)
            rw [← ea_13] at hP hD
            have hP : va_P G.1 vwC [(h, .inr (1, [.ref m0, .ref aml, .ref amb, .ref t0, .ref atl, .ref att, .ref ate, .ref b0, .ref asb, .ref r0, .ref asr, .int trp])), (m0, .inr (0, [.int 12288, .ref m1, .ref m2, .ref m3, .int u_10, .int u_11])), (m1, .inl (G.2.1 0, 6, .inl u_8)), (m2, .inl (G.2.1 0, 6, .inl u_9)), (m3, .inl (G.2.1 2, 6, .inl mD)), (aml, .inl (G.2.1 0, 6, .inl a_13))] H := hP
            have hD : va_D A [(h, .inr (1, [.ref m0, .ref aml, .ref amb, .ref t0, .ref atl, .ref att, .ref ate, .ref b0, .ref asb, .ref r0, .ref asr, .int trp])), (m0, .inr (0, [.int 12288, .ref m1, .ref m2, .ref m3, .int u_10, .int u_11])), (m1, .inl (G.2.1 0, 6, .inl u_8)), (m2, .inl (G.2.1 0, 6, .inl u_9)), (m3, .inl (G.2.1 2, 6, .inl mD)), (aml, .inl (G.2.1 0, 6, .inl a_13))] := hD
            refine lv_iload_n hx hb d_Pm_memory_55 rfl (lv_at hl 0 rfl) ?_
            exact W.iret (v := mC) hx hb hr (fun t ht hW => ⟨⟨mC, (u_8, u_9, u_10, u_11, a_13), rfl, hw, by have h9 := hP; rw [← ht] at h9; exact h9⟩, hS.F ht⟩) hS.2.2 d_Pm_memory_56
          · replace hw := hw.2 c_5
            refine lv_iconst (v := (-1)) hx hb d_Pm_memory_33 (by decide) ?_
            exact W.iret (v := (-1)) hx hb hr (fun t ht hW => ⟨⟨(-1), (mS, mL, mC, mU, fml), rfl, hw, by have h9 := hP; rw [← ht] at h9; exact h9⟩, hS.F ht⟩) hS.2.2 d_Pm_memory_34
def wp_Pm_grow (post : Int32 → ((Nat → Int32) × (Nat → Int32) × Int32 × (Nat → Int32)) → Prop) (trp : Int32) (mC : Int32) (mU : Int32) (mS : Nat → Int32) (mL : Nat → Int32) (mD : Nat → Int32) (fml : Nat → Int32) (fmb : Nat → Int32) (k : Int32) (ng : Int32) : Prop := ((¬ ly_has mC k = 0 → ((mC.toInt ≤ 6) ∧ (∀ x_3 : Int32, x_3 = ly_ln mC k mL / 256 → (∀ x_4 : Int64, x_4 = u32 ng → ((vp_in k 6) ∧ (((0 < lg_cmp (x_3.toInt64 + x_4) ((fml k.toNatClampNeg).toInt64) → (post (-1) (mS, mL, mU, fmb))) ∧ (¬ 0 < lg_cmp (x_3.toInt64 + x_4) ((fml k.toNatClampNeg).toInt64) → (((lg_cmp x_4 (((12288 - mU) / 256).toInt64) ≤ 0 → (∀ x_8 : Int32, x_8 = x_4.toInt32 * 256 → ((mC.toInt ≤ 6) ∧ (∀ x_10 : Int32, x_10 = ly_en mC mU k mS mL → ((¬ x_10 < 0) ∧ (¬ x_10 + x_8 < 0) ∧ (¬ mU - x_10 < 0) ∧ (x_10.toNatClampNeg + (mU - x_10).toNatClampNeg ≤ 12288) ∧ ((x_10 + x_8).toNatClampNeg + (mU - x_10).toNatClampNeg ≤ 12288) ∧ (∀ i, i < (mU - x_10).toNatClampNeg → fits .byte (.int (fmb (x_10.toNatClampNeg + i))) = true) ∧ ∀ a_17 : Nat → Int32, a_17 = va_cpy fmb fmb x_10.toNatClampNeg ((x_10 + x_8).toNatClampNeg) ((mU - x_10).toNatClampNeg) → ((¬ x_10 < 0) ∧ ((x_10 ≤ (x_10 + x_8)) ∧ (((x_10 + x_8) ≤ nI 12288) ∧ ((12288 < 2147483648) ∧ ((vp_nar .byte 0 = 0) ∧ (∀ u_23 : Nat → Int32, u_23 = ar_fill a_17 x_10.toNatClampNeg (x_10 + x_8).toNatClampNeg 0 → ((mC.toInt ≤ 6) ∧ ((¬ ly_has mC k = 0) ∧ ((6 < 2147483648) ∧ (∀ u_27 : Nat → Int32, u_27 = ly_shift mS k.toNatClampNeg mC.toNatClampNeg x_8 → (∀ u_28 : Nat → Int32, u_28 = upd mL k.toNatClampNeg (mL k.toNatClampNeg + x_8) → (∀ u_29 : Int32, u_29 = mU + x_8 → (post x_3 (u_27, u_28, u_29, u_23))))))))))))))))))) ∧ (¬ lg_cmp x_4 (((12288 - mU) / 256).toInt64) ≤ 0 → (post (-1) (mS, mL, mU, fmb))))))))))))) ∧ (ly_has mC k = 0 → (post (-1) (mS, mL, mU, fmb))))
set_option maxHeartbeats 4000000 in
set_option maxRecDepth 100000 in
theorem t_Pm_grow (l : Launch) (G : cxT) (h : Nat) (m0 : Nat) (aml : Nat) (amb : Nat) (t0 : Nat) (atl : Nat) (att : Nat) (ate : Nat) (b0 : Nat) (asb : Nat) (r0 : Nat) (asr : Nat) (m1 : Nat) (m2 : Nat) (m3 : Nat) (trp : Int32) (mC : Int32) (mU : Int32) (mS : Nat → Int32) (mL : Nat → Int32) (mD : Nat → Int32) (fml : Nat → Int32) (fmb : Nat → Int32) (k : Int32) (ng : Int32) (sz : Nat) (post : Int32 → ((Nat → Int32) × (Nat → Int32) × Int32 × (Nat → Int32)) → Prop) (hw : wp_Pm_grow post trp mC mU mS mL mD fml fmb k ng) : Met l y_Pm_grow [.code y_Pm_grow b_Pm_grow 8 (some .int)] ({ frames := 4, cells := 0, slots := 0, locals := 140 } : Room) (cm G [.ref h, .int k, .int ng] [(h, .inr (1, [.ref m0, .ref aml, .ref amb, .ref t0, .ref atl, .ref att, .ref ate, .ref b0, .ref asb, .ref r0, .ref asr, .int trp])), (m0, .inr (0, [.int 12288, .ref m1, .ref m2, .ref m3, .int mC, .int mU])), (m1, .inl (G.2.1 0, 6, .inl mS)), (m2, .inl (G.2.1 0, 6, .inl mL)), (m3, .inl (G.2.1 2, 6, .inl mD)), (aml, .inl (G.2.1 0, 6, .inl fml)), (amb, .inl (G.2.1 1, 12288, .inl fmb))] sz) (va_Qi post (fun u t => va_P G.1 vwC [(h, .inr (1, [.ref m0, .ref aml, .ref amb, .ref t0, .ref atl, .ref att, .ref ate, .ref b0, .ref asb, .ref r0, .ref asr, .int trp])), (m0, .inr (0, [.int 12288, .ref m1, .ref m2, .ref m3, .int mC, .int u.2.2.1])), (m1, .inl (G.2.1 0, 6, .inl u.1)), (m2, .inl (G.2.1 0, 6, .inl u.2.1)), (m3, .inl (G.2.1 2, 6, .inl mD)), (aml, .inl (G.2.1 0, 6, .inl fml)), (amb, .inl (G.2.1 1, 12288, .inl u.2.2.2))] t.heap) (va_A [(h, .inr (1, [.ref m0, .ref aml, .ref amb, .ref t0, .ref atl, .ref att, .ref ate, .ref b0, .ref asb, .ref r0, .ref asr, .int trp])), (m0, .inr (0, [.int 12288, .ref m1, .ref m2, .ref m3, .int mC, .int mU])), (m1, .inl (G.2.1 0, 6, .inl mS)), (m2, .inl (G.2.1 0, 6, .inl mL)), (m3, .inl (G.2.1 2, 6, .inl mD)), (aml, .inl (G.2.1 0, 6, .inl fml)), (amb, .inl (G.2.1 1, 12288, .inl fmb))] sz)) 0 0 (va_A [(h, .inr (1, [.ref m0, .ref aml, .ref amb, .ref t0, .ref atl, .ref att, .ref ate, .ref b0, .ref asb, .ref r0, .ref asr, .int trp])), (m0, .inr (0, [.int 12288, .ref m1, .ref m2, .ref m3, .int mC, .int mU])), (m1, .inl (G.2.1 0, 6, .inl mS)), (m2, .inl (G.2.1 0, 6, .inl mL)), (m3, .inl (G.2.1 2, 6, .inl mD)), (aml, .inl (G.2.1 0, 6, .inl fml)), (amb, .inl (G.2.1 1, 12288, .inl fmb))] sz) := by
  refine Met.ofW (cc := b_Pm_grow) (maxL := 8) (ret := (some .int)) (by decide +kernel) rfl ?_
  intro p e s m args below meth c s₁ B hml hv
  obtain ⟨rfl, hsz, hcx, hP, hD0⟩ := hv
  have hx := B.exec
  have hb := B.bytes
  have hr := B.returns
  have hlocks := B.notSynchronized
  have hown : s.vm.findClass R_Pm = some m.cls := findClass_of_methodNamed B.named
  subst hsz
  have hD := hD0.self (sz := s.heap.size)
  generalize hAe : va_A [(h, .inr (1, [.ref m0, .ref aml, .ref amb, .ref t0, .ref atl, .ref att, .ref ate, .ref b0, .ref asb, .ref r0, .ref asr, .int trp])), (m0, .inr (0, [.int 12288, .ref m1, .ref m2, .ref m3, .int mC, .int mU])), (m1, .inl (G.2.1 0, 6, .inl mS)), (m2, .inl (G.2.1 0, 6, .inl mL)), (m3, .inl (G.2.1 2, 6, .inl mD)), (aml, .inl (G.2.1 0, 6, .inl fml)), (amb, .inl (G.2.1 1, 12288, .inl fmb))] s.heap.size = A at hD hcx ⊢
  have hA : ∀ q : Nat, s.heap.size ≤ q → A q := fun q h => by rw [← hAe]; exact Or.inr h
  have hS : va_S A s.heap s.heap [] := va_S.rf
  have hts := hcx.now.1 [.ref h, .int k, .int ng].toArray
  have hK := hcx.now.2.1
  have hl := lv_entry ([.ref h, .int k, .int ng]) (n := 8) (Nat.le_of_ble_eq_true rfl)
  rw [lg_entry_eq]
  generalize (lg_sl ([.ref h, .int k, .int ng]) ++ List.replicate (8 - (lg_sl ([.ref h, .int k, .int ng])).length) Slot.unset).toArray = ls at hl ⊢
  have hl : lv_has ls 8 [(0, .ref h), (1, .int k), (2, .int ng)] := hl
  unfold wp_Pm_grow at hw
  refine lv_aload_n hx hb d_Pm_grow_0 rfl (lv_at hl 0 rfl) ?_
  refine va_get (D := G.1) (ci := 1) (v := .ref m0) (C := R_Pm) (T := T_Pm) (N := 12) hx hb hts in_Pm hown hK hP 0 rfl rfl 0 (by decide) (hts _ fl_Pm_14) (fun _ h9 => h9) rfl d_Pm_grow_1 ?_
  refine lv_iload_n hx hb d_Pm_grow_4 rfl (lv_at hl 1 rfl) ?_
  have hPc := hP.sub (ws' := [(m0, .inr (0, [.int 12288, .ref m1, .ref m2, .ref m3, .int mC, .int mU])), (m1, .inl (G.2.1 0, 6, .inl mS)), (m2, .inl (G.2.1 0, 6, .inl mL)), (m3, .inl (G.2.1 2, 6, .inl mD))]) [1, 2, 3, 4] rfl
  refine pu_i (va_runV (As := [.int k]) (rest := []) ⟨hx, hb, hml, hown, hts⟩ (c_Ly_has l G m0 m1 m2 m3 6 12288 mC mU mS mL mD k) (cwV 1 hts (gi_V ml_Pm_67 im_Ly_has se_Ly_has ini_Ly co_Ly_has) rfl rfl rfl (by decide +kernel) ⟨Nat.le_of_ble_eq_true rfl, Nat.le_of_ble_eq_true rfl⟩) ⟨cp_blind, va_recv hK hPc (ci := 0) (q0 := 0) rfl rfl, cp_pre hcx hS hPc⟩ rfl rfl hl.1 rfl (lv_room (Nat.le_of_ble_eq_true rfl)) d_Pm_grow_5 ⟨Nat.le_of_ble_eq_true rfl, Nat.le_of_ble_eq_true rfl⟩) hS hP (fun H locs hP hS => ?_)
  refine lv_if_ne (tgt := 13) hx hb d_Pm_grow_8 (by decide) (fun c_1 => ?_) (fun c_1 => ?_)
  · replace hw := hw.1 c_1
    refine lv_aload_n hx hb d_Pm_grow_13 rfl (lv_at hl 0 rfl) ?_
    refine lv_iload_n hx hb d_Pm_grow_14 rfl (lv_at hl 1 rfl) ?_
    obtain ⟨h_2, hw⟩ := hw
    have hPc := hP.sub (ws' := [(h, .inr (1, [.ref m0, .ref aml, .ref amb, .ref t0, .ref atl, .ref att, .ref ate, .ref b0, .ref asb, .ref r0, .ref asr, .int trp])), (m0, .inr (0, [.int 12288, .ref m1, .ref m2, .ref m3, .int mC, .int mU])), (m1, .inl (G.2.1 0, 6, .inl mS)), (m2, .inl (G.2.1 0, 6, .inl mL)), (m3, .inl (G.2.1 2, 6, .inl mD))]) [0, 1, 2, 3, 4] rfl
    refine pu_i (va_runV (As := [.int k]) (rest := []) ⟨hx, hb, hml, hown, hts⟩ (c_Pm_pagesOf l G h m0 aml amb t0 atl att ate b0 asb r0 asr m1 m2 m3 trp mC mU mS mL mD k h_2) (cwV 1 hts (gi_V ml_Pm_71 im_Pm_pagesOf se_Pm_pagesOf ini_Pm co_Pm_pagesOf) rfl rfl rfl (by decide +kernel) ⟨Nat.le_of_ble_eq_true rfl, Nat.le_of_ble_eq_true rfl⟩) ⟨cp_blind, va_recv hK hPc (ci := 1) (q0 := 0) rfl rfl, cp_pre hcx hS hPc⟩ rfl rfl hl.1 rfl (lv_room (Nat.le_of_ble_eq_true rfl)) d_Pm_grow_15 ⟨Nat.le_of_ble_eq_true rfl, Nat.le_of_ble_eq_true rfl⟩) hS hP (fun H locs hP hS => ?_)
    refine lv_topi (fun x_3 ex_3 => ?_)
    replace hw := hw x_3 ex_3
    refine lv_istore_n (lv' := [(3, .int x_3), (0, .ref h), (1, .int k), (2, .int ng)]) hx hb d_Pm_grow_18 rfl hl (by decide) rfl (fun ls hl => ?_)
    refine lv_iload_n hx hb d_Pm_grow_19 rfl (lv_at hl 3 rfl) ?_
    have hPc := hP.sub (ws' := []) [] rfl
    refine pu_l (va_runS (As := [.int ng]) (rest := []) ⟨hx, hb, hml, hown, hts⟩ (c_Pm_unsigned l G ng) (va_cwS 1 hts (gi_S ml_Pm_74 sm_Pm_unsigned ini_Pm co_Pm_unsigned) rfl rfl rfl (by decide +kernel) ⟨Nat.le_of_ble_eq_true rfl, Nat.le_of_ble_eq_true rfl⟩) ⟨cp_blind, cp_pre hcx hS hPc⟩ rfl rfl hl.1 rfl (lv_room (Nat.le_of_ble_eq_true rfl)) d_Pm_grow_20 ⟨Nat.le_of_ble_eq_true rfl, Nat.le_of_ble_eq_true rfl⟩) hS hP (fun H locs hP hS => ?_)
    refine lv_topl (fun x_4 ex_4 => ?_)
    replace hw := hw x_4 ex_4
    refine lv_lstore (lv' := [(4, .long x_4), (3, .int x_3), (0, .ref h), (1, .int k), (2, .int ng)]) hx hb d_Pm_grow_23 hl (by decide) rfl (fun ls hl => ?_)
    refine lv_iload_n hx hb d_Pm_grow_25 rfl (lv_at hl 1 rfl) ?_
    refine lv_i2l (v := x_3.toInt64) hx hb d_Pm_grow_26 rfl ?_
    refine lv_lload hx hb d_Pm_grow_27 (lv_at hl 0 rfl) ?_
    refine lv_ladd hx hb d_Pm_grow_29 ?_
    refine lv_aload_n hx hb d_Pm_grow_30 rfl (lv_at hl 2 rfl) ?_
    refine va_get (D := G.1) (ci := 1) (v := .ref aml) (C := R_Pm) (T := T_Pm) (N := 12) hx hb hts in_Pm hown hK hP 0 rfl rfl 1 (by decide) (hts _ fl_Pm_18) (fun _ h9 => h9) rfl d_Pm_grow_31 ?_
    refine lv_iload_n hx hb d_Pm_grow_34 rfl (lv_at hl 3 rfl) ?_
    obtain ⟨h_5, hw⟩ := hw
    refine va_iald hx hb hK hP 5 0 rfl rfl h_5 d_Pm_grow_35 ?_
    refine lv_i2l (v := (fml k.toNatClampNeg).toInt64) hx hb d_Pm_grow_36 rfl ?_
    refine W.lcmp hx hb d_Pm_grow_37 ?_
    refine lv_if_gt (tgt := 52) hx hb d_Pm_grow_38 (by decide) (fun c_6 => ?_) (fun c_6 => ?_)
    · replace hw := hw.1 c_6
      refine lv_iconst (v := (-1)) hx hb d_Pm_grow_52 (by decide) ?_
      exact W.iret (v := (-1)) hx hb hr (fun t ht hW => ⟨⟨(-1), (mS, mL, mU, fmb), rfl, hw, by have h9 := hP; rw [← ht] at h9; exact h9⟩, hS.F ht⟩) hS.2.2 d_Pm_grow_53
    · replace hw := hw.2 c_6
      refine lv_lload hx hb d_Pm_grow_41 (lv_at hl 0 rfl) ?_
      refine lv_aload_n hx hb d_Pm_grow_43 rfl (lv_at hl 2 rfl) ?_
      have hPc := hP.sub (ws' := [(h, .inr (1, [.ref m0, .ref aml, .ref amb, .ref t0, .ref atl, .ref att, .ref ate, .ref b0, .ref asb, .ref r0, .ref asr, .int trp])), (m0, .inr (0, [.int 12288, .ref m1, .ref m2, .ref m3, .int mC, .int mU])), (m1, .inl (G.2.1 0, 6, .inl mS)), (m2, .inl (G.2.1 0, 6, .inl mL)), (m3, .inl (G.2.1 2, 6, .inl mD))]) [0, 1, 2, 3, 4] rfl
      refine pu_i (va_runV (As := []) (rest := [.long x_4]) ⟨hx, hb, hml, hown, hts⟩ (c_Pm_pagesLeft l G h m0 aml amb t0 atl att ate b0 asb r0 asr m1 m2 m3 trp mC mU mS mL mD) (cwV 0 hts (gi_V ml_Pm_59 im_Pm_pagesLeft se_Pm_pagesLeft ini_Pm co_Pm_pagesLeft) rfl rfl rfl (by decide +kernel) ⟨Nat.le_of_ble_eq_true rfl, Nat.le_of_ble_eq_true rfl⟩) ⟨cp_blind, va_recv hK hPc (ci := 1) (q0 := 0) rfl rfl, cp_pre hcx hS hPc⟩ rfl rfl hl.1 rfl (lv_room (Nat.le_of_ble_eq_true rfl)) d_Pm_grow_44 ⟨Nat.le_of_ble_eq_true rfl, Nat.le_of_ble_eq_true rfl⟩) hS hP (fun H locs hP hS => ?_)
      refine lv_i2l (v := ((12288 - mU) / 256).toInt64) hx hb d_Pm_grow_47 rfl ?_
      refine W.lcmp hx hb d_Pm_grow_48 ?_
      refine lv_if_le (tgt := 54) hx hb d_Pm_grow_49 (by decide) (fun c_7 => ?_) (fun c_7 => ?_)
      · replace hw := hw.1 c_7
        refine lv_lload hx hb d_Pm_grow_54 (lv_at hl 0 rfl) ?_
        refine lv_l2i (v := x_4.toInt32) hx hb d_Pm_grow_56 rfl ?_
        refine lv_sipush (v := 256) hx hb d_Pm_grow_57 (by decide) ?_
        refine lv_imul hx hb d_Pm_grow_60 ?_
        refine lv_topi (fun x_8 ex_8 => ?_)
        replace hw := hw x_8 ex_8
        refine lv_istore (lv' := [(6, .int x_8), (4, .long x_4), (3, .int x_3), (0, .ref h), (1, .int k), (2, .int ng)]) hx hb d_Pm_grow_61 hl (by decide) rfl (fun ls hl => ?_)
        refine lv_aload_n hx hb d_Pm_grow_63 rfl (lv_at hl 3 rfl) ?_
        refine va_get (D := G.1) (ci := 1) (v := .ref m0) (C := R_Pm) (T := T_Pm) (N := 12) hx hb hts in_Pm hown hK hP 0 rfl rfl 0 (by decide) (hts _ fl_Pm_14) (fun _ h9 => h9) rfl d_Pm_grow_64 ?_
        refine lv_iload_n hx hb d_Pm_grow_67 rfl (lv_at hl 4 rfl) ?_
        obtain ⟨h_9, hw⟩ := hw
        have hPc := hP.sub (ws' := [(m0, .inr (0, [.int 12288, .ref m1, .ref m2, .ref m3, .int mC, .int mU])), (m1, .inl (G.2.1 0, 6, .inl mS)), (m2, .inl (G.2.1 0, 6, .inl mL)), (m3, .inl (G.2.1 2, 6, .inl mD))]) [1, 2, 3, 4] rfl
        refine pu_i (va_runV (As := [.int k]) (rest := []) ⟨hx, hb, hml, hown, hts⟩ (c_Ly_endOf l G m0 m1 m2 m3 6 12288 mC mU mS mL mD k h_9) (cwV 1 hts (gi_V ml_Pm_78 im_Ly_endOf se_Ly_endOf ini_Ly co_Ly_endOf) rfl rfl rfl (by decide +kernel) ⟨Nat.le_of_ble_eq_true rfl, Nat.le_of_ble_eq_true rfl⟩) ⟨cp_blind, va_recv hK hPc (ci := 0) (q0 := 0) rfl rfl, cp_pre hcx hS hPc⟩ rfl rfl hl.1 rfl (lv_room (Nat.le_of_ble_eq_true rfl)) d_Pm_grow_68 ⟨Nat.le_of_ble_eq_true rfl, Nat.le_of_ble_eq_true rfl⟩) hS hP (fun H locs hP hS => ?_)
        refine lv_topi (fun x_10 ex_10 => ?_)
        replace hw := hw x_10 ex_10
        refine lv_istore (lv' := [(7, .int x_10), (6, .int x_8), (4, .long x_4), (3, .int x_3), (0, .ref h), (1, .int k), (2, .int ng)]) hx hb d_Pm_grow_71 hl (by decide) rfl (fun ls hl => ?_)
        refine lv_aload_n hx hb d_Pm_grow_73 rfl (lv_at hl 4 rfl) ?_
        refine va_get (D := G.1) (ci := 1) (v := .ref amb) (C := R_Pm) (T := T_Pm) (N := 12) hx hb hts in_Pm hown hK hP 0 rfl rfl 2 (by decide) (hts _ fl_Pm_22) (fun _ h9 => h9) rfl d_Pm_grow_74 ?_
        refine lv_iload hx hb d_Pm_grow_77 (lv_at hl 0 rfl) ?_
        refine lv_aload_n hx hb d_Pm_grow_79 rfl (lv_at hl 4 rfl) ?_
        refine va_get (D := G.1) (ci := 1) (v := .ref amb) (C := R_Pm) (T := T_Pm) (N := 12) hx hb hts in_Pm hown hK hP 0 rfl rfl 2 (by decide) (hts _ fl_Pm_22) (fun _ h9 => h9) rfl d_Pm_grow_80 ?_
        refine lv_iload hx hb d_Pm_grow_83 (lv_at hl 0 rfl) ?_
        refine lv_iload hx hb d_Pm_grow_85 (lv_at hl 1 rfl) ?_
        refine lv_iadd hx hb d_Pm_grow_87 ?_
        refine lv_aload_n hx hb d_Pm_grow_88 rfl (lv_at hl 4 rfl) ?_
        refine va_get (D := G.1) (ci := 1) (v := .ref m0) (C := R_Pm) (T := T_Pm) (N := 12) hx hb hts in_Pm hown hK hP 0 rfl rfl 0 (by decide) (hts _ fl_Pm_14) (fun _ h9 => h9) rfl d_Pm_grow_89 ?_
        have hPc := hP.sub (ws' := [(m0, .inr (0, [.int 12288, .ref m1, .ref m2, .ref m3, .int mC, .int mU])), (m1, .inl (G.2.1 0, 6, .inl mS)), (m2, .inl (G.2.1 0, 6, .inl mL)), (m3, .inl (G.2.1 2, 6, .inl mD))]) [1, 2, 3, 4] rfl
        refine pu_i (va_runV (As := []) (rest := [.int (x_10 + x_8), .ref amb, .int x_10, .ref amb]) ⟨hx, hb, hml, hown, hts⟩ (c_Ly_used l G m0 m1 m2 m3 6 12288 mC mU mS mL mD) (cwV 0 hts (gi_V ml_Pm_81 im_Ly_used se_Ly_used ini_Ly co_Ly_used) rfl rfl rfl (by decide +kernel) ⟨Nat.le_of_ble_eq_true rfl, Nat.le_of_ble_eq_true rfl⟩) ⟨cp_blind, va_recv hK hPc (ci := 0) (q0 := 0) rfl rfl, cp_pre hcx hS hPc⟩ rfl rfl hl.1 rfl (lv_room (Nat.le_of_ble_eq_true rfl)) d_Pm_grow_92 ⟨Nat.le_of_ble_eq_true rfl, Nat.le_of_ble_eq_true rfl⟩) hS hP (fun H locs hP hS => ?_)
        refine lv_iload hx hb d_Pm_grow_95 (lv_at hl 0 rfl) ?_
        refine lv_isub hx hb d_Pm_grow_97 ?_
        obtain ⟨h_11, h_12, h_13, h_14, h_15, h_16, hw⟩ := hw
        obtain ⟨a_17, ea_17⟩ : ∃ z, z = va_cpy fmb fmb x_10.toNatClampNeg ((x_10 + x_8).toNatClampNeg) ((mU - x_10).toNatClampNeg) := ⟨_, rfl⟩
        replace hw := hw a_17 ea_17
        refine va_copyi (ty := .byte) hx hb (hml.trans hl.1.symm) hown (hts _ ml_Pm_84) (hts _ nt_arraycopy) (hts _ sm_arraycopy) (hts _ ini_System) hK hP hD hS 6 6 1 1 rfl rfl rfl rfl rfl h_11 h_12 h_13 h_14 h_15 h_16 (Nat.le_of_ble_eq_true rfl) (Nat.le_of_ble_eq_true rfl) d_Pm_grow_98 (fun H locs hP hD hS => ?_)
        rw [← ea_17] at hP hD
        have hP : va_P G.1 vwC [(h, .inr (1, [.ref m0, .ref aml, .ref amb, .ref t0, .ref atl, .ref att, .ref ate, .ref b0, .ref asb, .ref r0, .ref asr, .int trp])), (m0, .inr (0, [.int 12288, .ref m1, .ref m2, .ref m3, .int mC, .int mU])), (m1, .inl (G.2.1 0, 6, .inl mS)), (m2, .inl (G.2.1 0, 6, .inl mL)), (m3, .inl (G.2.1 2, 6, .inl mD)), (aml, .inl (G.2.1 0, 6, .inl fml)), (amb, .inl (G.2.1 1, 12288, .inl a_17))] H := hP
        have hD : va_D A [(h, .inr (1, [.ref m0, .ref aml, .ref amb, .ref t0, .ref atl, .ref att, .ref ate, .ref b0, .ref asb, .ref r0, .ref asr, .int trp])), (m0, .inr (0, [.int 12288, .ref m1, .ref m2, .ref m3, .int mC, .int mU])), (m1, .inl (G.2.1 0, 6, .inl mS)), (m2, .inl (G.2.1 0, 6, .inl mL)), (m3, .inl (G.2.1 2, 6, .inl mD)), (aml, .inl (G.2.1 0, 6, .inl fml)), (amb, .inl (G.2.1 1, 12288, .inl a_17))] := hD
        refine lv_aload_n hx hb d_Pm_grow_101 rfl (lv_at hl 4 rfl) ?_
        refine va_get (D := G.1) (ci := 1) (v := .ref amb) (C := R_Pm) (T := T_Pm) (N := 12) hx hb hts in_Pm hown hK hP 0 rfl rfl 2 (by decide) (hts _ fl_Pm_22) (fun _ h9 => h9) rfl d_Pm_grow_102 ?_
        refine lv_iload hx hb d_Pm_grow_105 (lv_at hl 0 rfl) ?_
        refine lv_iload hx hb d_Pm_grow_107 (lv_at hl 0 rfl) ?_
        refine lv_iload hx hb d_Pm_grow_109 (lv_at hl 1 rfl) ?_
        refine lv_iadd hx hb d_Pm_grow_111 ?_
        refine lv_iconst (v := 0) hx hb d_Pm_grow_112 (by decide) ?_
        obtain ⟨h_18, hw⟩ := hw
        obtain ⟨h_19, hw⟩ := hw
        obtain ⟨h_20, hw⟩ := hw
        obtain ⟨h_21, hw⟩ := hw
        obtain ⟨h_22, hw⟩ := hw
        have hPc := hP.sub (ws' := [(amb, .inl (G.2.1 1, 12288, .inl a_17))]) [6] rfl
        have hDc := hD.sub (ws' := [(amb, .inl (G.2.1 1, 12288, .inl a_17))]) [6] (by decide) rfl
        have hFc := va_free (wc := [(amb, .inl (G.2.1 1, 12288, .inl a_17))]) hD hS hA [6] rfl
        refine ip_v (va_runS (As := [.ref amb, .int x_10, .int (x_10 + x_8), .int 0]) (rest := []) ⟨hx, hb, hml, hown, hts⟩ (c_Ar_fillB l G amb 12288 a_17 x_10 (x_10 + x_8) 0 _ h_18 h_19 h_20 h_21 h_22) (va_cwS 4 hts (gi_S ml_Pm_90 sm_Ar_fillB ini_Ar co_Ar_fillB) rfl rfl rfl (by decide +kernel) ⟨Nat.le_of_ble_eq_true rfl, Nat.le_of_ble_eq_true rfl⟩) ⟨cm_blind, cm_pre hcx hS hPc hDc hFc⟩ rfl rfl hl.1 rfl (lv_room (Nat.le_of_ble_eq_true rfl)) d_Pm_grow_113 ⟨Nat.le_of_ble_eq_true rfl, Nat.le_of_ble_eq_true rfl⟩) hS hP hD hA [6] rfl (fun _ => rfl) (fun u9 H locs hp hP hD hS => ?_)
        replace hp := hp.symm; subst hp
        obtain ⟨u_23, eu_23⟩ : ∃ z : Nat → Int32, z = ar_fill a_17 x_10.toNatClampNeg (x_10 + x_8).toNatClampNeg 0 := ⟨_, rfl⟩
        replace hw := hw u_23 eu_23
        have hP : va_P G.1 vwC [(h, .inr (1, [.ref m0, .ref aml, .ref amb, .ref t0, .ref atl, .ref att, .ref ate, .ref b0, .ref asb, .ref r0, .ref asr, .int trp])), (m0, .inr (0, [.int 12288, .ref m1, .ref m2, .ref m3, .int mC, .int mU])), (m1, .inl (G.2.1 0, 6, .inl mS)), (m2, .inl (G.2.1 0, 6, .inl mL)), (m3, .inl (G.2.1 2, 6, .inl mD)), (aml, .inl (G.2.1 0, 6, .inl fml)), (amb, .inl (G.2.1 1, 12288, .inl (ar_fill a_17 x_10.toNatClampNeg (x_10 + x_8).toNatClampNeg 0)))] H := hP
        have hD : va_D A [(h, .inr (1, [.ref m0, .ref aml, .ref amb, .ref t0, .ref atl, .ref att, .ref ate, .ref b0, .ref asb, .ref r0, .ref asr, .int trp])), (m0, .inr (0, [.int 12288, .ref m1, .ref m2, .ref m3, .int mC, .int mU])), (m1, .inl (G.2.1 0, 6, .inl mS)), (m2, .inl (G.2.1 0, 6, .inl mL)), (m3, .inl (G.2.1 2, 6, .inl mD)), (aml, .inl (G.2.1 0, 6, .inl fml)), (amb, .inl (G.2.1 1, 12288, .inl (ar_fill a_17 x_10.toNatClampNeg (x_10 + x_8).toNatClampNeg 0)))] := hD
        have hP : va_P G.1 vwC [(h, .inr (1, [.ref m0, .ref aml, .ref amb, .ref t0, .ref atl, .ref att, .ref ate, .ref b0, .ref asb, .ref r0, .ref asr, .int trp])), (m0, .inr (0, [.int 12288, .ref m1, .ref m2, .ref m3, .int mC, .int mU])), (m1, .inl (G.2.1 0, 6, .inl mS)), (m2, .inl (G.2.1 0, 6, .inl mL)), (m3, .inl (G.2.1 2, 6, .inl mD)), (aml, .inl (G.2.1 0, 6, .inl fml)), (amb, .inl (G.2.1 1, 12288, .inl u_23))] H := by rw [eu_23]; exact hP
        have hD : va_D A [(h, .inr (1, [.ref m0, .ref aml, .ref amb, .ref t0, .ref atl, .ref att, .ref ate, .ref b0, .ref asb, .ref r0, .ref asr, .int trp])), (m0, .inr (0, [.int 12288, .ref m1, .ref m2, .ref m3, .int mC, .int mU])), (m1, .inl (G.2.1 0, 6, .inl mS)), (m2, .inl (G.2.1 0, 6, .inl mL)), (m3, .inl (G.2.1 2, 6, .inl mD)), (aml, .inl (G.2.1 0, 6, .inl fml)), (amb, .inl (G.2.1 1, 12288, .inl u_23))] := by rw [eu_23]; exact hD
        refine lv_aload_n hx hb d_Pm_grow_116 rfl (lv_at hl 4 rfl) ?_
        refine va_get (D := G.1) (ci := 1) (v := .ref m0) (C := R_Pm) (T := T_Pm) (N := 12) hx hb hts in_Pm hown hK hP 0 rfl rfl 0 (by decide) (hts _ fl_Pm_14) (fun _ h9 => h9) rfl d_Pm_grow_117 ?_
        refine lv_iload_n hx hb d_Pm_grow_120 rfl (lv_at hl 5 rfl) ?_
        refine lv_iload hx hb d_Pm_grow_121 (lv_at hl 1 rfl) ?_
        obtain ⟨h_24, hw⟩ := hw
        obtain ⟨h_25, hw⟩ := hw
        obtain ⟨h_26, hw⟩ := hw
        have hPc := hP.sub (ws' := [(m0, .inr (0, [.int 12288, .ref m1, .ref m2, .ref m3, .int mC, .int mU])), (m1, .inl (G.2.1 0, 6, .inl mS)), (m2, .inl (G.2.1 0, 6, .inl mL)), (m3, .inl (G.2.1 2, 6, .inl mD))]) [1, 2, 3, 4] rfl
        have hDc := hD.sub (ws' := [(m0, .inr (0, [.int 12288, .ref m1, .ref m2, .ref m3, .int mC, .int mU])), (m1, .inl (G.2.1 0, 6, .inl mS)), (m2, .inl (G.2.1 0, 6, .inl mL)), (m3, .inl (G.2.1 2, 6, .inl mD))]) [1, 2, 3, 4] (by decide) rfl
        have hFc := va_free (wc := [(m0, .inr (0, [.int 12288, .ref m1, .ref m2, .ref m3, .int mC, .int mU])), (m1, .inl (G.2.1 0, 6, .inl mS)), (m2, .inl (G.2.1 0, 6, .inl mL)), (m3, .inl (G.2.1 2, 6, .inl mD))]) hD hS hA [1, 2, 3, 4] rfl
        refine ip_v (va_runV (As := [.int k, .int x_8]) (rest := []) ⟨hx, hb, hml, hown, hts⟩ (c_Ly_widen l G m0 m1 m2 m3 6 12288 mC mU mS mL mD k x_8 _ h_24 h_25 h_26) (cwV 2 hts (gi_V ml_Pm_96 im_Ly_widen se_Ly_widen ini_Ly co_Ly_widen) rfl rfl rfl (by decide +kernel) ⟨Nat.le_of_ble_eq_true rfl, Nat.le_of_ble_eq_true rfl⟩) ⟨cm_blind, va_recv hK hPc (ci := 0) (q0 := 0) rfl rfl, cm_pre hcx hS hPc hDc hFc⟩ rfl rfl hl.1 rfl (lv_room (Nat.le_of_ble_eq_true rfl)) d_Pm_grow_123 ⟨Nat.le_of_ble_eq_true rfl, Nat.le_of_ble_eq_true rfl⟩) hS hP hD hA [1, 2, 3, 4] rfl (fun _ => rfl) (fun u9 H locs hp hP hD hS => ?_)
        replace hp := hp.symm; subst hp
        obtain ⟨u_27, eu_27⟩ : ∃ z : Nat → Int32, z = ly_shift mS k.toNatClampNeg mC.toNatClampNeg x_8 := ⟨_, rfl⟩
        replace hw := hw u_27 eu_27
        obtain ⟨u_28, eu_28⟩ : ∃ z : Nat → Int32, z = upd mL k.toNatClampNeg (mL k.toNatClampNeg + x_8) := ⟨_, rfl⟩
        replace hw := hw u_28 eu_28
        obtain ⟨u_29, eu_29⟩ : ∃ z : Int32, z = mU + x_8 := ⟨_, rfl⟩
        replace hw := hw u_29 eu_29
        have hP : va_P G.1 vwC [(h, .inr (1, [.ref m0, .ref aml, .ref amb, .ref t0, .ref atl, .ref att, .ref ate, .ref b0, .ref asb, .ref r0, .ref asr, .int trp])), (m0, .inr (0, [.int 12288, .ref m1, .ref m2, .ref m3, .int mC, .int (mU + x_8)])), (m1, .inl (G.2.1 0, 6, .inl (ly_shift mS k.toNatClampNeg mC.toNatClampNeg x_8))), (m2, .inl (G.2.1 0, 6, .inl (upd mL k.toNatClampNeg (mL k.toNatClampNeg + x_8)))), (m3, .inl (G.2.1 2, 6, .inl mD)), (aml, .inl (G.2.1 0, 6, .inl fml)), (amb, .inl (G.2.1 1, 12288, .inl u_23))] H := hP
        have hD : va_D A [(h, .inr (1, [.ref m0, .ref aml, .ref amb, .ref t0, .ref atl, .ref att, .ref ate, .ref b0, .ref asb, .ref r0, .ref asr, .int trp])), (m0, .inr (0, [.int 12288, .ref m1, .ref m2, .ref m3, .int mC, .int (mU + x_8)])), (m1, .inl (G.2.1 0, 6, .inl (ly_shift mS k.toNatClampNeg mC.toNatClampNeg x_8))), (m2, .inl (G.2.1 0, 6, .inl (upd mL k.toNatClampNeg (mL k.toNatClampNeg + x_8)))), (m3, .inl (G.2.1 2, 6, .inl mD)), (aml, .inl (G.2.1 0, 6, .inl fml)), (amb, .inl (G.2.1 1, 12288, .inl u_23))] := hD
        have hP : va_P G.1 vwC [(h, .inr (1, [.ref m0, .ref aml, .ref amb, .ref t0, .ref atl, .ref att, .ref ate, .ref b0, .ref asb, .ref r0, .ref asr, .int trp])), (m0, .inr (0, [.int 12288, .ref m1, .ref m2, .ref m3, .int mC, .int u_29])), (m1, .inl (G.2.1 0, 6, .inl u_27)), (m2, .inl (G.2.1 0, 6, .inl u_28)), (m3, .inl (G.2.1 2, 6, .inl mD)), (aml, .inl (G.2.1 0, 6, .inl fml)), (amb, .inl (G.2.1 1, 12288, .inl u_23))] H := by rw [eu_27]; rw [eu_28]; rw [eu_29]; exact hP
        have hD : va_D A [(h, .inr (1, [.ref m0, .ref aml, .ref amb, .ref t0, .ref atl, .ref att, .ref ate, .ref b0, .ref asb, .ref r0, .ref asr, .int trp])), (m0, .inr (0, [.int 12288, .ref m1, .ref m2, .ref m3, .int mC, .int u_29])), (m1, .inl (G.2.1 0, 6, .inl u_27)), (m2, .inl (G.2.1 0, 6, .inl u_28)), (m3, .inl (G.2.1 2, 6, .inl mD)), (aml, .inl (G.2.1 0, 6, .inl fml)), (amb, .inl (G.2.1 1, 12288, .inl u_23))] := by rw [eu_27]; rw [eu_28]; rw [eu_29]; exact hD
        refine lv_iload_n hx hb d_Pm_grow_126 rfl (lv_at hl 3 rfl) ?_
        exact W.iret (v := x_3) hx hb hr (fun t ht hW => ⟨⟨x_3, (u_27, u_28, u_29, u_23), rfl, hw, by have h9 := hP; rw [← ht] at h9; exact h9⟩, hS.F ht⟩) hS.2.2 d_Pm_grow_127
      · replace hw := hw.2 c_7
        refine lv_iconst (v := (-1)) hx hb d_Pm_grow_52 (by decide) ?_
        exact W.iret (v := (-1)) hx hb hr (fun t ht hW => ⟨⟨(-1), (mS, mL, mU, fmb), rfl, hw, by have h9 := hP; rw [← ht] at h9; exact h9⟩, hS.F ht⟩) hS.2.2 d_Pm_grow_53
  · replace hw := hw.2 c_1
    refine lv_iconst (v := (-1)) hx hb d_Pm_grow_11 (by decide) ?_
    exact W.iret (v := (-1)) hx hb hr (fun t ht hW => ⟨⟨(-1), (mS, mL, mU, fmb), rfl, hw, by have h9 := hP; rw [← ht] at h9; exact h9⟩, hS.F ht⟩) hS.2.2 d_Pm_grow_12
def wp_Pm_data (post : Int32 → ((Nat → Int32) × (Nat → Int32) × Int32 × Int32 × (Nat → Int32)) → Prop) (trp : Int32) (bC : Int32) (bU : Int32) (bS : Nat → Int32) (bL : Nat → Int32) (bD : Nat → Int32) (fsb : Nat → Int32) (nb : Int64) (nn : Int32) (mo : Int32) : Prop := ((nn < 0 → (post (-1) (bS, bL, bC, bU, fsb))) ∧ (¬ nn < 0 → (((8 < nn → (post (-1) (bS, bL, bC, bU, fsb))) ∧ (¬ 8 < nn → ((bC.toInt ≤ 24) ∧ (((¬ ly_can bC bU 600 nn mo 24 bD = 0 → ((¬ bU < 0) ∧ ((¬ nn < 0) ∧ ((bU.toNatClampNeg + nn.toNatClampNeg ≤ 600) ∧ ((600 < 2147483648) ∧ (∀ u_9 : Nat → Int32, u_9 = put_b fsb bU.toNatClampNeg nn.toNatClampNeg nb → ((bC.toInt ≤ 24) ∧ ((24 < 2147483648) ∧ ((mo = 0 → vp_in bC 24 ∧ ly_full bC 24 = 0) ∧ ((¬ mo = 0 → ¬ bC ≤ 0) ∧ (∀ u_14 : Nat → Int32, u_14 = (if mo = 0 then upd bS bC.toNatClampNeg bU else bS) → (∀ u_15 : Nat → Int32, u_15 = (if mo = 0 then upd bL bC.toNatClampNeg nn else upd bL (bC - 1).toNatClampNeg (bL (bC - 1).toNatClampNeg + nn)) → (∀ u_16 : Int32, u_16 = (if mo = 0 then bC + 1 else bC) → (∀ u_17 : Int32, u_17 = bU + nn → (post (if mo = 0 then bC else bC - 1) (u_14, u_15, u_16, u_17, u_9)))))))))))))))) ∧ (ly_can bC bU 600 nn mo 24 bD = 0 → (post (-1) (bS, bL, bC, bU, fsb)))))))))))
set_option maxHeartbeats 4000000 in
set_option maxRecDepth 100000 in
theorem t_Pm_data (l : Launch) (G : cxT) (h : Nat) (m0 : Nat) (aml : Nat) (amb : Nat) (t0 : Nat) (atl : Nat) (att : Nat) (ate : Nat) (b0 : Nat) (asb : Nat) (r0 : Nat) (asr : Nat) (b1 : Nat) (b2 : Nat) (b3 : Nat) (trp : Int32) (bC : Int32) (bU : Int32) (bS : Nat → Int32) (bL : Nat → Int32) (bD : Nat → Int32) (fsb : Nat → Int32) (nb : Int64) (nn : Int32) (mo : Int32) (sz : Nat) (post : Int32 → ((Nat → Int32) × (Nat → Int32) × Int32 × Int32 × (Nat → Int32)) → Prop) (hw : wp_Pm_data post trp bC bU bS bL bD fsb nb nn mo) : Met l y_Pm_data [.code y_Pm_data b_Pm_data 5 (some .int)] ({ frames := 4, cells := 0, slots := 0, locals := 140 } : Room) (cm G [.ref h, .long nb, .int nn, .int mo] [(h, .inr (1, [.ref m0, .ref aml, .ref amb, .ref t0, .ref atl, .ref att, .ref ate, .ref b0, .ref asb, .ref r0, .ref asr, .int trp])), (b0, .inr (0, [.int 600, .ref b1, .ref b2, .ref b3, .int bC, .int bU])), (b1, .inl (G.2.1 0, 24, .inl bS)), (b2, .inl (G.2.1 0, 24, .inl bL)), (b3, .inl (G.2.1 2, 24, .inl bD)), (asb, .inl (G.2.1 1, 600, .inl fsb))] sz) (va_Qi post (fun u t => va_P G.1 vwC [(h, .inr (1, [.ref m0, .ref aml, .ref amb, .ref t0, .ref atl, .ref att, .ref ate, .ref b0, .ref asb, .ref r0, .ref asr, .int trp])), (b0, .inr (0, [.int 600, .ref b1, .ref b2, .ref b3, .int u.2.2.1, .int u.2.2.2.1])), (b1, .inl (G.2.1 0, 24, .inl u.1)), (b2, .inl (G.2.1 0, 24, .inl u.2.1)), (b3, .inl (G.2.1 2, 24, .inl bD)), (asb, .inl (G.2.1 1, 600, .inl u.2.2.2.2))] t.heap) (va_A [(h, .inr (1, [.ref m0, .ref aml, .ref amb, .ref t0, .ref atl, .ref att, .ref ate, .ref b0, .ref asb, .ref r0, .ref asr, .int trp])), (b0, .inr (0, [.int 600, .ref b1, .ref b2, .ref b3, .int bC, .int bU])), (b1, .inl (G.2.1 0, 24, .inl bS)), (b2, .inl (G.2.1 0, 24, .inl bL)), (b3, .inl (G.2.1 2, 24, .inl bD)), (asb, .inl (G.2.1 1, 600, .inl fsb))] sz)) 0 0 (va_A [(h, .inr (1, [.ref m0, .ref aml, .ref amb, .ref t0, .ref atl, .ref att, .ref ate, .ref b0, .ref asb, .ref r0, .ref asr, .int trp])), (b0, .inr (0, [.int 600, .ref b1, .ref b2, .ref b3, .int bC, .int bU])), (b1, .inl (G.2.1 0, 24, .inl bS)), (b2, .inl (G.2.1 0, 24, .inl bL)), (b3, .inl (G.2.1 2, 24, .inl bD)), (asb, .inl (G.2.1 1, 600, .inl fsb))] sz) := by
  refine Met.ofW (cc := b_Pm_data) (maxL := 5) (ret := (some .int)) (by decide +kernel) rfl ?_
  intro p e s m args below meth c s₁ B hml hv
  obtain ⟨rfl, hsz, hcx, hP, hD0⟩ := hv
  have hx := B.exec
  have hb := B.bytes
  have hr := B.returns
  have hlocks := B.notSynchronized
  have hown : s.vm.findClass R_Pm = some m.cls := findClass_of_methodNamed B.named
  subst hsz
  have hD := hD0.self (sz := s.heap.size)
  generalize hAe : va_A [(h, .inr (1, [.ref m0, .ref aml, .ref amb, .ref t0, .ref atl, .ref att, .ref ate, .ref b0, .ref asb, .ref r0, .ref asr, .int trp])), (b0, .inr (0, [.int 600, .ref b1, .ref b2, .ref b3, .int bC, .int bU])), (b1, .inl (G.2.1 0, 24, .inl bS)), (b2, .inl (G.2.1 0, 24, .inl bL)), (b3, .inl (G.2.1 2, 24, .inl bD)), (asb, .inl (G.2.1 1, 600, .inl fsb))] s.heap.size = A at hD hcx ⊢
  have hA : ∀ q : Nat, s.heap.size ≤ q → A q := fun q h => by rw [← hAe]; exact Or.inr h
  have hS : va_S A s.heap s.heap [] := va_S.rf
  have hts := hcx.now.1 [.ref h, .long nb, .int nn, .int mo].toArray
  have hK := hcx.now.2.1
  have hl := lv_entry ([.ref h, .long nb, .int nn, .int mo]) (n := 5) (Nat.le_of_ble_eq_true rfl)
  rw [lg_entry_eq]
  generalize (lg_sl ([.ref h, .long nb, .int nn, .int mo]) ++ List.replicate (5 - (lg_sl ([.ref h, .long nb, .int nn, .int mo])).length) Slot.unset).toArray = ls at hl ⊢
  have hl : lv_has ls 5 [(0, .ref h), (1, .long nb), (3, .int nn), (4, .int mo)] := hl
  unfold wp_Pm_data at hw
  refine lv_iload_n hx hb d_Pm_data_0 rfl (lv_at hl 2 rfl) ?_
  refine lv_if_lt (tgt := 23) hx hb d_Pm_data_1 (by decide) (fun c_1 => ?_) (fun c_1 => ?_)
  · replace hw := hw.1 c_1
    refine lv_iconst (v := (-1)) hx hb d_Pm_data_23 (by decide) ?_
    exact W.iret (v := (-1)) hx hb hr (fun t ht hW => ⟨⟨(-1), (bS, bL, bC, bU, fsb), rfl, hw, by have h9 := hP; rw [← ht] at h9; exact h9⟩, hS.F ht⟩) hS.2.2 d_Pm_data_24
  · replace hw := hw.2 c_1
    refine lv_iload_n hx hb d_Pm_data_4 rfl (lv_at hl 2 rfl) ?_
    refine lv_bipush (v := 8) hx hb d_Pm_data_5 (by decide) ?_
    refine lv_icmp_gt (tgt := 23) hx hb d_Pm_data_7 (by decide) (fun c_2 => ?_) (fun c_2 => ?_)
    · replace hw := hw.1 c_2
      refine lv_iconst (v := (-1)) hx hb d_Pm_data_23 (by decide) ?_
      exact W.iret (v := (-1)) hx hb hr (fun t ht hW => ⟨⟨(-1), (bS, bL, bC, bU, fsb), rfl, hw, by have h9 := hP; rw [← ht] at h9; exact h9⟩, hS.F ht⟩) hS.2.2 d_Pm_data_24
    · replace hw := hw.2 c_2
      refine lv_aload_n hx hb d_Pm_data_10 rfl (lv_at hl 0 rfl) ?_
      refine va_get (D := G.1) (ci := 1) (v := .ref b0) (C := R_Pm) (T := T_Pm) (N := 12) hx hb hts in_Pm hown hK hP 0 rfl rfl 7 (by decide) (hts _ fl_Pm_38) (fun _ h9 => h9) rfl d_Pm_data_11 ?_
      refine lv_iload_n hx hb d_Pm_data_14 rfl (lv_at hl 2 rfl) ?_
      refine lv_iload hx hb d_Pm_data_15 (lv_at hl 3 rfl) ?_
      obtain ⟨h_3, hw⟩ := hw
      have hPc := hP.sub (ws' := [(b0, .inr (0, [.int 600, .ref b1, .ref b2, .ref b3, .int bC, .int bU])), (b1, .inl (G.2.1 0, 24, .inl bS)), (b2, .inl (G.2.1 0, 24, .inl bL)), (b3, .inl (G.2.1 2, 24, .inl bD))]) [1, 2, 3, 4] rfl
      refine pu_i (va_runV (As := [.int nn, .int mo]) (rest := []) ⟨hx, hb, hml, hown, hts⟩ (c_Ly_canTake l G b0 b1 b2 b3 24 600 bC bU bS bL bD nn mo h_3) (cwV 2 hts (gi_V ml_Pm_136 im_Ly_canTake se_Ly_canTake ini_Ly co_Ly_canTake) rfl rfl rfl (by decide +kernel) ⟨Nat.le_of_ble_eq_true rfl, Nat.le_of_ble_eq_true rfl⟩) ⟨cp_blind, va_recv hK hPc (ci := 0) (q0 := 0) rfl rfl, cp_pre hcx hS hPc⟩ rfl rfl hl.1 rfl (lv_room (Nat.le_of_ble_eq_true rfl)) d_Pm_data_17 ⟨Nat.le_of_ble_eq_true rfl, Nat.le_of_ble_eq_true rfl⟩) hS hP (fun H locs hP hS => ?_)
      refine lv_if_ne (tgt := 25) hx hb d_Pm_data_20 (by decide) (fun c_4 => ?_) (fun c_4 => ?_)
      · replace hw := hw.1 c_4
        refine lv_lload_n hx hb d_Pm_data_25 rfl (lv_at hl 1 rfl) ?_
        refine lv_iload_n hx hb d_Pm_data_26 rfl (lv_at hl 2 rfl) ?_
        refine lv_aload_n hx hb d_Pm_data_27 rfl (lv_at hl 0 rfl) ?_
        refine va_get (D := G.1) (ci := 1) (v := .ref asb) (C := R_Pm) (T := T_Pm) (N := 12) hx hb hts in_Pm hown hK hP 0 rfl rfl 8 (by decide) (hts _ fl_Pm_41) (fun _ h9 => h9) rfl d_Pm_data_28 ?_
        refine lv_aload_n hx hb d_Pm_data_31 rfl (lv_at hl 0 rfl) ?_
        refine va_get (D := G.1) (ci := 1) (v := .ref b0) (C := R_Pm) (T := T_Pm) (N := 12) hx hb hts in_Pm hown hK hP 0 rfl rfl 7 (by decide) (hts _ fl_Pm_38) (fun _ h9 => h9) rfl d_Pm_data_32 ?_
        have hPc := hP.sub (ws' := [(b0, .inr (0, [.int 600, .ref b1, .ref b2, .ref b3, .int bC, .int bU])), (b1, .inl (G.2.1 0, 24, .inl bS)), (b2, .inl (G.2.1 0, 24, .inl bL)), (b3, .inl (G.2.1 2, 24, .inl bD))]) [1, 2, 3, 4] rfl
        refine pu_i (va_runV (As := []) (rest := [.ref asb, .int nn, .long nb]) ⟨hx, hb, hml, hown, hts⟩ (c_Ly_used l G b0 b1 b2 b3 24 600 bC bU bS bL bD) (cwV 0 hts (gi_V ml_Pm_81 im_Ly_used se_Ly_used ini_Ly co_Ly_used) rfl rfl rfl (by decide +kernel) ⟨Nat.le_of_ble_eq_true rfl, Nat.le_of_ble_eq_true rfl⟩) ⟨cp_blind, va_recv hK hPc (ci := 0) (q0 := 0) rfl rfl, cp_pre hcx hS hPc⟩ rfl rfl hl.1 rfl (lv_room (Nat.le_of_ble_eq_true rfl)) d_Pm_data_35 ⟨Nat.le_of_ble_eq_true rfl, Nat.le_of_ble_eq_true rfl⟩) hS hP (fun H locs hP hS => ?_)
        obtain ⟨h_5, hw⟩ := hw
        obtain ⟨h_6, hw⟩ := hw
        obtain ⟨h_7, hw⟩ := hw
        obtain ⟨h_8, hw⟩ := hw
        have hPc := hP.sub (ws' := [(asb, .inl (G.2.1 1, 600, .inl fsb))]) [5] rfl
        have hDc := hD.sub (ws' := [(asb, .inl (G.2.1 1, 600, .inl fsb))]) [5] (by decide) rfl
        have hFc := va_free (wc := [(asb, .inl (G.2.1 1, 600, .inl fsb))]) hD hS hA [5] rfl
        refine ip_v (va_runS (As := [.long nb, .int nn, .ref asb, .int bU]) (rest := []) ⟨hx, hb, hml, hown, hts⟩ (c_Pm_putLowestBytes l G asb 600 fsb nb nn bU _ h_5 h_6 h_7 h_8) (va_cwS 4 hts (gi_S ml_Pm_128 sm_Pm_putLowestBytes ini_Pm co_Pm_putLowestBytes) rfl rfl rfl (by decide +kernel) ⟨Nat.le_of_ble_eq_true rfl, Nat.le_of_ble_eq_true rfl⟩) ⟨cm_blind, cm_pre hcx hS hPc hDc hFc⟩ rfl rfl hl.1 rfl (lv_room (Nat.le_of_ble_eq_true rfl)) d_Pm_data_38 ⟨Nat.le_of_ble_eq_true rfl, Nat.le_of_ble_eq_true rfl⟩) hS hP hD hA [5] rfl (fun _ => rfl) (fun u9 H locs hp hP hD hS => ?_)
        replace hp := hp.symm; subst hp
        obtain ⟨u_9, eu_9⟩ : ∃ z : Nat → Int32, z = put_b fsb bU.toNatClampNeg nn.toNatClampNeg nb := ⟨_, rfl⟩
        replace hw := hw u_9 eu_9
        have hP : va_P G.1 vwC [(h, .inr (1, [.ref m0, .ref aml, .ref amb, .ref t0, .ref atl, .ref att, .ref ate, .ref b0, .ref asb, .ref r0, .ref asr, .int trp])), (b0, .inr (0, [.int 600, .ref b1, .ref b2, .ref b3, .int bC, .int bU])), (b1, .inl (G.2.1 0, 24, .inl bS)), (b2, .inl (G.2.1 0, 24, .inl bL)), (b3, .inl (G.2.1 2, 24, .inl bD)), (asb, .inl (G.2.1 1, 600, .inl (put_b fsb bU.toNatClampNeg nn.toNatClampNeg nb)))] H := hP
        have hD : va_D A [(h, .inr (1, [.ref m0, .ref aml, .ref amb, .ref t0, .ref atl, .ref att, .ref ate, .ref b0, .ref asb, .ref r0, .ref asr, .int trp])), (b0, .inr (0, [.int 600, .ref b1, .ref b2, .ref b3, .int bC, .int bU])), (b1, .inl (G.2.1 0, 24, .inl bS)), (b2, .inl (G.2.1 0, 24, .inl bL)), (b3, .inl (G.2.1 2, 24, .inl bD)), (asb, .inl (G.2.1 1, 600, .inl (put_b fsb bU.toNatClampNeg nn.toNatClampNeg nb)))] := hD
        have hP : va_P G.1 vwC [(h, .inr (1, [.ref m0, .ref aml, .ref amb, .ref t0, .ref atl, .ref att, .ref ate, .ref b0, .ref asb, .ref r0, .ref asr, .int trp])), (b0, .inr (0, [.int 600, .ref b1, .ref b2, .ref b3, .int bC, .int bU])), (b1, .inl (G.2.1 0, 24, .inl bS)), (b2, .inl (G.2.1 0, 24, .inl bL)), (b3, .inl (G.2.1 2, 24, .inl bD)), (asb, .inl (G.2.1 1, 600, .inl u_9))] H := by rw [eu_9]; exact hP
        have hD : va_D A [(h, .inr (1, [.ref m0, .ref aml, .ref amb, .ref t0, .ref atl, .ref att, .ref ate, .ref b0, .ref asb, .ref r0, .ref asr, .int trp])), (b0, .inr (0, [.int 600, .ref b1, .ref b2, .ref b3, .int bC, .int bU])), (b1, .inl (G.2.1 0, 24, .inl bS)), (b2, .inl (G.2.1 0, 24, .inl bL)), (b3, .inl (G.2.1 2, 24, .inl bD)), (asb, .inl (G.2.1 1, 600, .inl u_9))] := by rw [eu_9]; exact hD
        refine lv_aload_n hx hb d_Pm_data_41 rfl (lv_at hl 0 rfl) ?_
        refine va_get (D := G.1) (ci := 1) (v := .ref b0) (C := R_Pm) (T := T_Pm) (N := 12) hx hb hts in_Pm hown hK hP 0 rfl rfl 7 (by decide) (hts _ fl_Pm_38) (fun _ h9 => h9) rfl d_Pm_data_42 ?_
        refine lv_iload_n hx hb d_Pm_data_45 rfl (lv_at hl 2 rfl) ?_
        refine lv_iload hx hb d_Pm_data_46 (lv_at hl 3 rfl) ?_
        obtain ⟨h_10, hw⟩ := hw
        obtain ⟨h_11, hw⟩ := hw
        obtain ⟨h_12, hw⟩ := hw
        obtain ⟨h_13, hw⟩ := hw
        have hPc := hP.sub (ws' := [(b0, .inr (0, [.int 600, .ref b1, .ref b2, .ref b3, .int bC, .int bU])), (b1, .inl (G.2.1 0, 24, .inl bS)), (b2, .inl (G.2.1 0, 24, .inl bL)), (b3, .inl (G.2.1 2, 24, .inl bD))]) [1, 2, 3, 4] rfl
        have hDc := hD.sub (ws' := [(b0, .inr (0, [.int 600, .ref b1, .ref b2, .ref b3, .int bC, .int bU])), (b1, .inl (G.2.1 0, 24, .inl bS)), (b2, .inl (G.2.1 0, 24, .inl bL)), (b3, .inl (G.2.1 2, 24, .inl bD))]) [1, 2, 3, 4] (by decide) rfl
        have hFc := va_free (wc := [(b0, .inr (0, [.int 600, .ref b1, .ref b2, .ref b3, .int bC, .int bU])), (b1, .inl (G.2.1 0, 24, .inl bS)), (b2, .inl (G.2.1 0, 24, .inl bL)), (b3, .inl (G.2.1 2, 24, .inl bD))]) hD hS hA [1, 2, 3, 4] rfl
        refine ip_i (va_runV (As := [.int nn, .int mo]) (rest := []) ⟨hx, hb, hml, hown, hts⟩ (c_Ly_take l G b0 b1 b2 b3 24 600 bC bU bS bL bD nn mo _ h_10 h_11 h_12 h_13) (cwV 2 hts (gi_V ml_Pm_140 im_Ly_take se_Ly_take ini_Ly co_Ly_take) rfl rfl rfl (by decide +kernel) ⟨Nat.le_of_ble_eq_true rfl, Nat.le_of_ble_eq_true rfl⟩) ⟨cm_blind, va_recv hK hPc (ci := 0) (q0 := 0) rfl rfl, cm_pre hcx hS hPc hDc hFc⟩ rfl rfl hl.1 rfl (lv_room (Nat.le_of_ble_eq_true rfl)) d_Pm_data_48 ⟨Nat.le_of_ble_eq_true rfl, Nat.le_of_ble_eq_true rfl⟩) hS hP hD hA [1, 2, 3, 4] rfl (fun _ => rfl) (fun r9 u9 H locs hp hP hD hS => ?_)
        obtain ⟨e91, e92⟩ := hp; replace e91 := e91.symm; replace e92 := e92.symm; subst e91; subst e92
        obtain ⟨u_14, eu_14⟩ : ∃ z : Nat → Int32, z = if mo = 0 then upd bS bC.toNatClampNeg bU else bS := ⟨_, rfl⟩
        replace hw := hw u_14 eu_14
        obtain ⟨u_15, eu_15⟩ : ∃ z : Nat → Int32, z = if mo = 0 then upd bL bC.toNatClampNeg nn else upd bL (bC - 1).toNatClampNeg (bL (bC - 1).toNatClampNeg + nn) := ⟨_, rfl⟩
        replace hw := hw u_15 eu_15
        obtain ⟨u_16, eu_16⟩ : ∃ z : Int32, z = if mo = 0 then bC + 1 else bC := ⟨_, rfl⟩
        replace hw := hw u_16 eu_16
        obtain ⟨u_17, eu_17⟩ : ∃ z : Int32, z = bU + nn := ⟨_, rfl⟩
        replace hw := hw u_17 eu_17
        have hP : va_P G.1 vwC [(h, .inr (1, [.ref m0, .ref aml, .ref amb, .ref t0, .ref atl, .ref att, .ref ate, .ref b0, .ref asb, .ref r0, .ref asr, .int trp])), (b0, .inr (0, [.int 600, .ref b1, .ref b2, .ref b3, .int (if mo = 0 then bC + 1 else bC), .int (bU + nn)])), (b1, .inl (G.2.1 0, 24, .inl (if mo = 0 then upd bS bC.toNatClampNeg bU else bS))), (b2, .inl (G.2.1 0, 24, .inl (if mo = 0 then upd bL bC.toNatClampNeg nn else upd bL (bC - 1).toNatClampNeg (bL (bC - 1).toNatClampNeg + nn)))), (b3, .inl (G.2.1 2, 24, .inl bD)), (asb, .inl (G.2.1 1, 600, .inl u_9))] H := hP
        have hD : va_D A [(h, .inr (1, [.ref m0, .ref aml, .ref amb, .ref t0, .ref atl, .ref att, .ref ate, .ref b0, .ref asb, .ref r0, .ref asr, .int trp])), (b0, .inr (0, [.int 600, .ref b1, .ref b2, .ref b3, .int (if mo = 0 then bC + 1 else bC), .int (bU + nn)])), (b1, .inl (G.2.1 0, 24, .inl (if mo = 0 then upd bS bC.toNatClampNeg bU else bS))), (b2, .inl (G.2.1 0, 24, .inl (if mo = 0 then upd bL bC.toNatClampNeg nn else upd bL (bC - 1).toNatClampNeg (bL (bC - 1).toNatClampNeg + nn)))), (b3, .inl (G.2.1 2, 24, .inl bD)), (asb, .inl (G.2.1 1, 600, .inl u_9))] := hD
        have hP : va_P G.1 vwC [(h, .inr (1, [.ref m0, .ref aml, .ref amb, .ref t0, .ref atl, .ref att, .ref ate, .ref b0, .ref asb, .ref r0, .ref asr, .int trp])), (b0, .inr (0, [.int 600, .ref b1, .ref b2, .ref b3, .int u_16, .int u_17])), (b1, .inl (G.2.1 0, 24, .inl u_14)), (b2, .inl (G.2.1 0, 24, .inl u_15)), (b3, .inl (G.2.1 2, 24, .inl bD)), (asb, .inl (G.2.1 1, 600, .inl u_9))] H := by rw [eu_14]; rw [eu_15]; rw [eu_16]; rw [eu_17]; exact hP
        have hD : va_D A [(h, .inr (1, [.ref m0, .ref aml, .ref amb, .ref t0, .ref atl, .ref att, .ref ate, .ref b0, .ref asb, .ref r0, .ref asr, .int trp])), (b0, .inr (0, [.int 600, .ref b1, .ref b2, .ref b3, .int u_16, .int u_17])), (b1, .inl (G.2.1 0, 24, .inl u_14)), (b2, .inl (G.2.1 0, 24, .inl u_15)), (b3, .inl (G.2.1 2, 24, .inl bD)), (asb, .inl (G.2.1 1, 600, .inl u_9))] := by rw [eu_14]; rw [eu_15]; rw [eu_16]; rw [eu_17]; exact hD
        exact W.iret (v := (if mo = 0 then bC else bC - 1)) hx hb hr (fun t ht hW => ⟨⟨(if mo = 0 then bC else bC - 1), (u_14, u_15, u_16, u_17, u_9), rfl, hw, by have h9 := hP; rw [← ht] at h9; exact h9⟩, hS.F ht⟩) hS.2.2 d_Pm_data_51
      · replace hw := hw.2 c_4
        refine lv_iconst (v := (-1)) hx hb d_Pm_data_23 (by decide) ?_
        exact W.iret (v := (-1)) hx hb hr (fun t ht hW => ⟨⟨(-1), (bS, bL, bC, bU, fsb), rfl, hw, by have h9 := hP; rw [← ht] at h9; exact h9⟩, hS.F ht⟩) hS.2.2 d_Pm_data_24
def wp_Pm_table (post : Int32 → ((Nat → Int32) × (Nat → Int32) × Int32 × Int32 × (Nat → Int32) × (Nat → Int32) × (Nat → Int32)) → Prop) (trp : Int32) (tC : Int32) (tU : Int32) (tS : Nat → Int32) (tL : Nat → Int32) (tD : Nat → Int32) (ftl : Nat → Int32) (ftt : Nat → Int32) (fte : Nat → Int32) (typ : Int32) (en : Int32) (lim : Int32) : Prop := ((¬ ly_full tC 6 = 0 → (post (-1) (tS, tL, tC, tU, ftl, ftt, fte))) ∧ (ly_full tC 6 = 0 → (((typ = 112 → (((en < 0 → (post (-1) (tS, tL, tC, tU, ftl, ftt, fte))) ∧ (¬ en < 0 → (((0 < lg_cmp en.toInt64 (u32 lim) → (post (-1) (tS, tL, tC, tU, ftl, ftt, fte))) ∧ (¬ 0 < lg_cmp en.toInt64 (u32 lim) → (((en ≤ 200 - tU → ((¬ tU < 0) ∧ ((tU ≤ (tU + en)) ∧ (((tU + en) ≤ nI 200) ∧ ((200 < 2147483648) ∧ (∀ u_10 : Nat → Int32, u_10 = ar_fill fte tU.toNatClampNeg (tU + en).toNatClampNeg (-1) → ((vp_in tC 6) ∧ ((ly_full tC 6 = 0) ∧ (∀ u_13 : Nat → Int32, u_13 = upd tS tC.toNatClampNeg tU → (∀ u_14 : Nat → Int32, u_14 = upd tL tC.toNatClampNeg en → (∀ u_15 : Int32, u_15 = tC + 1 → (∀ u_16 : Int32, u_16 = tU + en → ((vp_in tC 6) ∧ ∀ a_18 : Nat → Int32, a_18 = upd ftt tC.toNatClampNeg typ → ((vp_in tC 6) ∧ ∀ a_20 : Nat → Int32, a_20 = upd ftl tC.toNatClampNeg lim → (post tC (u_13, u_14, u_15, u_16, a_20, a_18, u_10)))))))))))))))) ∧ (¬ en ≤ 200 - tU → (post (-1) (tS, tL, tC, tU, ftl, ftt, fte)))))))))))) ∧ (¬ typ = 112 → (((typ = 111 → (((en < 0 → (post (-1) (tS, tL, tC, tU, ftl, ftt, fte))) ∧ (¬ en < 0 → (((0 < lg_cmp en.toInt64 (u32 lim) → (post (-1) (tS, tL, tC, tU, ftl, ftt, fte))) ∧ (¬ 0 < lg_cmp en.toInt64 (u32 lim) → (((en ≤ 200 - tU → ((¬ tU < 0) ∧ ((tU ≤ (tU + en)) ∧ (((tU + en) ≤ nI 200) ∧ ((200 < 2147483648) ∧ (∀ u_29 : Nat → Int32, u_29 = ar_fill fte tU.toNatClampNeg (tU + en).toNatClampNeg (-1) → ((vp_in tC 6) ∧ ((ly_full tC 6 = 0) ∧ (∀ u_32 : Nat → Int32, u_32 = upd tS tC.toNatClampNeg tU → (∀ u_33 : Nat → Int32, u_33 = upd tL tC.toNatClampNeg en → (∀ u_34 : Int32, u_34 = tC + 1 → (∀ u_35 : Int32, u_35 = tU + en → ((vp_in tC 6) ∧ ∀ a_37 : Nat → Int32, a_37 = upd ftt tC.toNatClampNeg typ → ((vp_in tC 6) ∧ ∀ a_39 : Nat → Int32, a_39 = upd ftl tC.toNatClampNeg lim → (post tC (u_32, u_33, u_34, u_35, a_39, a_37, u_29)))))))))))))))) ∧ (¬ en ≤ 200 - tU → (post (-1) (tS, tL, tC, tU, ftl, ftt, fte)))))))))))) ∧ (¬ typ = 111 → (post (-1) (tS, tL, tC, tU, ftl, ftt, fte))))))))))
set_option maxHeartbeats 4000000 in
set_option maxRecDepth 100000 in
theorem t_Pm_table (l : Launch) (G : cxT) (h : Nat) (m0 : Nat) (aml : Nat) (amb : Nat) (t0 : Nat) (atl : Nat) (att : Nat) (ate : Nat) (b0 : Nat) (asb : Nat) (r0 : Nat) (asr : Nat) (t1 : Nat) (t2 : Nat) (t3 : Nat) (trp : Int32) (tC : Int32) (tU : Int32) (tS : Nat → Int32) (tL : Nat → Int32) (tD : Nat → Int32) (ftl : Nat → Int32) (ftt : Nat → Int32) (fte : Nat → Int32) (typ : Int32) (en : Int32) (lim : Int32) (sz : Nat) (post : Int32 → ((Nat → Int32) × (Nat → Int32) × Int32 × Int32 × (Nat → Int32) × (Nat → Int32) × (Nat → Int32)) → Prop) (hw : wp_Pm_table post trp tC tU tS tL tD ftl ftt fte typ en lim) : Met l y_Pm_table [.code y_Pm_table b_Pm_table 6 (some .int)] ({ frames := 4, cells := 0, slots := 0, locals := 140 } : Room) (cm G [.ref h, .int typ, .int en, .int lim] [(h, .inr (1, [.ref m0, .ref aml, .ref amb, .ref t0, .ref atl, .ref att, .ref ate, .ref b0, .ref asb, .ref r0, .ref asr, .int trp])), (t0, .inr (0, [.int 200, .ref t1, .ref t2, .ref t3, .int tC, .int tU])), (t1, .inl (G.2.1 0, 6, .inl tS)), (t2, .inl (G.2.1 0, 6, .inl tL)), (t3, .inl (G.2.1 2, 6, .inl tD)), (atl, .inl (G.2.1 0, 6, .inl ftl)), (att, .inl (G.2.1 0, 6, .inl ftt)), (ate, .inl (G.2.1 0, 200, .inl fte))] sz) (va_Qi post (fun u t => va_P G.1 vwC [(h, .inr (1, [.ref m0, .ref aml, .ref amb, .ref t0, .ref atl, .ref att, .ref ate, .ref b0, .ref asb, .ref r0, .ref asr, .int trp])), (t0, .inr (0, [.int 200, .ref t1, .ref t2, .ref t3, .int u.2.2.1, .int u.2.2.2.1])), (t1, .inl (G.2.1 0, 6, .inl u.1)), (t2, .inl (G.2.1 0, 6, .inl u.2.1)), (t3, .inl (G.2.1 2, 6, .inl tD)), (atl, .inl (G.2.1 0, 6, .inl u.2.2.2.2.1)), (att, .inl (G.2.1 0, 6, .inl u.2.2.2.2.2.1)), (ate, .inl (G.2.1 0, 200, .inl u.2.2.2.2.2.2))] t.heap) (va_A [(h, .inr (1, [.ref m0, .ref aml, .ref amb, .ref t0, .ref atl, .ref att, .ref ate, .ref b0, .ref asb, .ref r0, .ref asr, .int trp])), (t0, .inr (0, [.int 200, .ref t1, .ref t2, .ref t3, .int tC, .int tU])), (t1, .inl (G.2.1 0, 6, .inl tS)), (t2, .inl (G.2.1 0, 6, .inl tL)), (t3, .inl (G.2.1 2, 6, .inl tD)), (atl, .inl (G.2.1 0, 6, .inl ftl)), (att, .inl (G.2.1 0, 6, .inl ftt)), (ate, .inl (G.2.1 0, 200, .inl fte))] sz)) 0 0 (va_A [(h, .inr (1, [.ref m0, .ref aml, .ref amb, .ref t0, .ref atl, .ref att, .ref ate, .ref b0, .ref asb, .ref r0, .ref asr, .int trp])), (t0, .inr (0, [.int 200, .ref t1, .ref t2, .ref t3, .int tC, .int tU])), (t1, .inl (G.2.1 0, 6, .inl tS)), (t2, .inl (G.2.1 0, 6, .inl tL)), (t3, .inl (G.2.1 2, 6, .inl tD)), (atl, .inl (G.2.1 0, 6, .inl ftl)), (att, .inl (G.2.1 0, 6, .inl ftt)), (ate, .inl (G.2.1 0, 200, .inl fte))] sz) := by
  refine Met.ofW (cc := b_Pm_table) (maxL := 6) (ret := (some .int)) (by decide +kernel) rfl ?_
  intro p e s m args below meth c s₁ B hml hv
  obtain ⟨rfl, hsz, hcx, hP, hD0⟩ := hv
  have hx := B.exec
  have hb := B.bytes
  have hr := B.returns
  have hlocks := B.notSynchronized
  have hown : s.vm.findClass R_Pm = some m.cls := findClass_of_methodNamed B.named
  subst hsz
  have hD := hD0.self (sz := s.heap.size)
  generalize hAe : va_A [(h, .inr (1, [.ref m0, .ref aml, .ref amb, .ref t0, .ref atl, .ref att, .ref ate, .ref b0, .ref asb, .ref r0, .ref asr, .int trp])), (t0, .inr (0, [.int 200, .ref t1, .ref t2, .ref t3, .int tC, .int tU])), (t1, .inl (G.2.1 0, 6, .inl tS)), (t2, .inl (G.2.1 0, 6, .inl tL)), (t3, .inl (G.2.1 2, 6, .inl tD)), (atl, .inl (G.2.1 0, 6, .inl ftl)), (att, .inl (G.2.1 0, 6, .inl ftt)), (ate, .inl (G.2.1 0, 200, .inl fte))] s.heap.size = A at hD hcx ⊢
  have hA : ∀ q : Nat, s.heap.size ≤ q → A q := fun q h => by rw [← hAe]; exact Or.inr h
  have hS : va_S A s.heap s.heap [] := va_S.rf
  have hts := hcx.now.1 [.ref h, .int typ, .int en, .int lim].toArray
  have hK := hcx.now.2.1
  have hl := lv_entry ([.ref h, .int typ, .int en, .int lim]) (n := 6) (Nat.le_of_ble_eq_true rfl)
  rw [lg_entry_eq]
  generalize (lg_sl ([.ref h, .int typ, .int en, .int lim]) ++ List.replicate (6 - (lg_sl ([.ref h, .int typ, .int en, .int lim])).length) Slot.unset).toArray = ls at hl ⊢
  have hl : lv_has ls 6 [(0, .ref h), (1, .int typ), (2, .int en), (3, .int lim)] := hl
  unfold wp_Pm_table at hw
  refine lv_aload_n hx hb d_Pm_table_0 rfl (lv_at hl 0 rfl) ?_
  refine va_get (D := G.1) (ci := 1) (v := .ref t0) (C := R_Pm) (T := T_Pm) (N := 12) hx hb hts in_Pm hown hK hP 0 rfl rfl 3 (by decide) (hts _ fl_Pm_26) (fun _ h9 => h9) rfl d_Pm_table_1 ?_
  have hPc := hP.sub (ws' := [(t0, .inr (0, [.int 200, .ref t1, .ref t2, .ref t3, .int tC, .int tU])), (t1, .inl (G.2.1 0, 6, .inl tS)), (t2, .inl (G.2.1 0, 6, .inl tL)), (t3, .inl (G.2.1 2, 6, .inl tD))]) [1, 2, 3, 4] rfl
  refine pu_i (va_runV (As := []) (rest := []) ⟨hx, hb, hml, hown, hts⟩ (c_Ly_isFull l G t0 t1 t2 t3 6 200 tC tU tS tL tD) (cwV 0 hts (gi_V ml_Pm_54 im_Ly_isFull se_Ly_isFull ini_Ly co_Ly_isFull) rfl rfl rfl (by decide +kernel) ⟨Nat.le_of_ble_eq_true rfl, Nat.le_of_ble_eq_true rfl⟩) ⟨cp_blind, va_recv hK hPc (ci := 0) (q0 := 0) rfl rfl, cp_pre hcx hS hPc⟩ rfl rfl hl.1 rfl (lv_room (Nat.le_of_ble_eq_true rfl)) d_Pm_table_4 ⟨Nat.le_of_ble_eq_true rfl, Nat.le_of_ble_eq_true rfl⟩) hS hP (fun H locs hP hS => ?_)
  refine lv_if_ne (tgt := 22) hx hb d_Pm_table_7 (by decide) (fun c_1 => ?_) (fun c_1 => ?_)
  · replace hw := hw.1 c_1
    refine lv_iconst (v := (-1)) hx hb d_Pm_table_22 (by decide) ?_
    exact W.iret (v := (-1)) hx hb hr (fun t ht hW => ⟨⟨(-1), (tS, tL, tC, tU, ftl, ftt, fte), rfl, hw, by have h9 := hP; rw [← ht] at h9; exact h9⟩, hS.F ht⟩) hS.2.2 d_Pm_table_23
  · replace hw := hw.2 c_1
    refine lv_iload_n hx hb d_Pm_table_10 rfl (lv_at hl 1 rfl) ?_
    refine lv_bipush (v := 112) hx hb d_Pm_table_11 (by decide) ?_
    refine lv_icmp_eq (tgt := 24) hx hb d_Pm_table_13 (by decide) (fun c_2 => ?_) (fun c_2 => ?_)
    · replace hw := hw.1 c_2
      refine lv_iload_n hx hb d_Pm_table_24 rfl (lv_at hl 2 rfl) ?_
      refine lv_if_lt (tgt := 49) hx hb d_Pm_table_25 (by decide) (fun c_3 => ?_) (fun c_3 => ?_)
      · replace hw := hw.1 c_3
        refine lv_iconst (v := (-1)) hx hb d_Pm_table_49 (by decide) ?_
        exact W.iret (v := (-1)) hx hb hr (fun t ht hW => ⟨⟨(-1), (tS, tL, tC, tU, ftl, ftt, fte), rfl, hw, by have h9 := hP; rw [← ht] at h9; exact h9⟩, hS.F ht⟩) hS.2.2 d_Pm_table_50
      · replace hw := hw.2 c_3
        refine lv_iload_n hx hb d_Pm_table_28 rfl (lv_at hl 2 rfl) ?_
        refine lv_i2l (v := en.toInt64) hx hb d_Pm_table_29 rfl ?_
        refine lv_iload_n hx hb d_Pm_table_30 rfl (lv_at hl 3 rfl) ?_
        have hPc := hP.sub (ws' := []) [] rfl
        refine pu_l (va_runS (As := [.int lim]) (rest := [.long en.toInt64]) ⟨hx, hb, hml, hown, hts⟩ (c_Pm_unsigned l G lim) (va_cwS 1 hts (gi_S ml_Pm_74 sm_Pm_unsigned ini_Pm co_Pm_unsigned) rfl rfl rfl (by decide +kernel) ⟨Nat.le_of_ble_eq_true rfl, Nat.le_of_ble_eq_true rfl⟩) ⟨cp_blind, cp_pre hcx hS hPc⟩ rfl rfl hl.1 rfl (lv_room (Nat.le_of_ble_eq_true rfl)) d_Pm_table_31 ⟨Nat.le_of_ble_eq_true rfl, Nat.le_of_ble_eq_true rfl⟩) hS hP (fun H locs hP hS => ?_)
        refine W.lcmp hx hb d_Pm_table_34 ?_
        refine lv_if_gt (tgt := 49) hx hb d_Pm_table_35 (by decide) (fun c_4 => ?_) (fun c_4 => ?_)
        · replace hw := hw.1 c_4
          refine lv_iconst (v := (-1)) hx hb d_Pm_table_49 (by decide) ?_
          exact W.iret (v := (-1)) hx hb hr (fun t ht hW => ⟨⟨(-1), (tS, tL, tC, tU, ftl, ftt, fte), rfl, hw, by have h9 := hP; rw [← ht] at h9; exact h9⟩, hS.F ht⟩) hS.2.2 d_Pm_table_50
        · replace hw := hw.2 c_4
          refine lv_iload_n hx hb d_Pm_table_38 rfl (lv_at hl 2 rfl) ?_
          refine lv_aload_n hx hb d_Pm_table_39 rfl (lv_at hl 0 rfl) ?_
          refine va_get (D := G.1) (ci := 1) (v := .ref t0) (C := R_Pm) (T := T_Pm) (N := 12) hx hb hts in_Pm hown hK hP 0 rfl rfl 3 (by decide) (hts _ fl_Pm_26) (fun _ h9 => h9) rfl d_Pm_table_40 ?_
          have hPc := hP.sub (ws' := [(t0, .inr (0, [.int 200, .ref t1, .ref t2, .ref t3, .int tC, .int tU])), (t1, .inl (G.2.1 0, 6, .inl tS)), (t2, .inl (G.2.1 0, 6, .inl tL)), (t3, .inl (G.2.1 2, 6, .inl tD))]) [1, 2, 3, 4] rfl
          refine pu_i (va_runV (As := []) (rest := [.int en]) ⟨hx, hb, hml, hown, hts⟩ (c_Ly_left l G t0 t1 t2 t3 6 200 tC tU tS tL tD) (cwV 0 hts (gi_V ml_Pm_150 im_Ly_left se_Ly_left ini_Ly co_Ly_left) rfl rfl rfl (by decide +kernel) ⟨Nat.le_of_ble_eq_true rfl, Nat.le_of_ble_eq_true rfl⟩) ⟨cp_blind, va_recv hK hPc (ci := 0) (q0 := 0) rfl rfl, cp_pre hcx hS hPc⟩ rfl rfl hl.1 rfl (lv_room (Nat.le_of_ble_eq_true rfl)) d_Pm_table_43 ⟨Nat.le_of_ble_eq_true rfl, Nat.le_of_ble_eq_true rfl⟩) hS hP (fun H locs hP hS => ?_)
          refine lv_icmp_le (tgt := 51) hx hb d_Pm_table_46 (by decide) (fun c_5 => ?_) (fun c_5 => ?_)
          · replace hw := hw.1 c_5
            refine lv_aload_n hx hb d_Pm_table_51 rfl (lv_at hl 0 rfl) ?_
            refine va_get (D := G.1) (ci := 1) (v := .ref t0) (C := R_Pm) (T := T_Pm) (N := 12) hx hb hts in_Pm hown hK hP 0 rfl rfl 3 (by decide) (hts _ fl_Pm_26) (fun _ h9 => h9) rfl d_Pm_table_52 ?_
            have hPc := hP.sub (ws' := [(t0, .inr (0, [.int 200, .ref t1, .ref t2, .ref t3, .int tC, .int tU])), (t1, .inl (G.2.1 0, 6, .inl tS)), (t2, .inl (G.2.1 0, 6, .inl tL)), (t3, .inl (G.2.1 2, 6, .inl tD))]) [1, 2, 3, 4] rfl
            refine pu_i (va_runV (As := []) (rest := []) ⟨hx, hb, hml, hown, hts⟩ (c_Ly_used l G t0 t1 t2 t3 6 200 tC tU tS tL tD) (cwV 0 hts (gi_V ml_Pm_81 im_Ly_used se_Ly_used ini_Ly co_Ly_used) rfl rfl rfl (by decide +kernel) ⟨Nat.le_of_ble_eq_true rfl, Nat.le_of_ble_eq_true rfl⟩) ⟨cp_blind, va_recv hK hPc (ci := 0) (q0 := 0) rfl rfl, cp_pre hcx hS hPc⟩ rfl rfl hl.1 rfl (lv_room (Nat.le_of_ble_eq_true rfl)) d_Pm_table_55 ⟨Nat.le_of_ble_eq_true rfl, Nat.le_of_ble_eq_true rfl⟩) hS hP (fun H locs hP hS => ?_)
            refine lv_istore (lv' := [(4, .int tU), (0, .ref h), (1, .int typ), (2, .int en), (3, .int lim)]) hx hb d_Pm_table_58 hl (by decide) rfl (fun ls hl => ?_)
            refine lv_aload_n hx hb d_Pm_table_60 rfl (lv_at hl 1 rfl) ?_
            refine va_get (D := G.1) (ci := 1) (v := .ref ate) (C := R_Pm) (T := T_Pm) (N := 12) hx hb hts in_Pm hown hK hP 0 rfl rfl 6 (by decide) (hts _ fl_Pm_35) (fun _ h9 => h9) rfl d_Pm_table_61 ?_
            refine lv_iload hx hb d_Pm_table_64 (lv_at hl 0 rfl) ?_
            refine lv_iload hx hb d_Pm_table_66 (lv_at hl 0 rfl) ?_
            refine lv_iload_n hx hb d_Pm_table_68 rfl (lv_at hl 3 rfl) ?_
            refine lv_iadd hx hb d_Pm_table_69 ?_
            refine lv_iconst (v := (-1)) hx hb d_Pm_table_70 (by decide) ?_
            obtain ⟨h_6, hw⟩ := hw
            obtain ⟨h_7, hw⟩ := hw
            obtain ⟨h_8, hw⟩ := hw
            obtain ⟨h_9, hw⟩ := hw
            have hPc := hP.sub (ws' := [(ate, .inl (G.2.1 0, 200, .inl fte))]) [7] rfl
            have hDc := hD.sub (ws' := [(ate, .inl (G.2.1 0, 200, .inl fte))]) [7] (by decide) rfl
            have hFc := va_free (wc := [(ate, .inl (G.2.1 0, 200, .inl fte))]) hD hS hA [7] rfl
            refine ip_v (va_runS (As := [.ref ate, .int tU, .int (tU + en), .int (-1)]) (rest := []) ⟨hx, hb, hml, hown, hts⟩ (c_Ar_fillI l G ate 200 fte tU (tU + en) (-1) _ h_6 h_7 h_8 h_9) (va_cwS 4 hts (gi_S ml_Pm_153 sm_Ar_fillI ini_Ar co_Ar_fillI) rfl rfl rfl (by decide +kernel) ⟨Nat.le_of_ble_eq_true rfl, Nat.le_of_ble_eq_true rfl⟩) ⟨cm_blind, cm_pre hcx hS hPc hDc hFc⟩ rfl rfl hl.1 rfl (lv_room (Nat.le_of_ble_eq_true rfl)) d_Pm_table_71 ⟨Nat.le_of_ble_eq_true rfl, Nat.le_of_ble_eq_true rfl⟩) hS hP hD hA [7] rfl (fun _ => rfl) (fun u9 H locs hp hP hD hS => ?_)
            replace hp := hp.symm; subst hp
            obtain ⟨u_10, eu_10⟩ : ∃ z : Nat → Int32, z = ar_fill fte tU.toNatClampNeg (tU + en).toNatClampNeg (-1) := ⟨_, rfl⟩
            replace hw := hw u_10 eu_10
            have hP : va_P G.1 vwC [(h, .inr (1, [.ref m0, .ref aml, .ref amb, .ref t0, .ref atl, .ref att, .ref ate, .ref b0, .ref asb, .ref r0, .ref asr, .int trp])), (t0, .inr (0, [.int 200, .ref t1, .ref t2, .ref t3, .int tC, .int tU])), (t1, .inl (G.2.1 0, 6, .inl tS)), (t2, .inl (G.2.1 0, 6, .inl tL)), (t3, .inl (G.2.1 2, 6, .inl tD)), (atl, .inl (G.2.1 0, 6, .inl ftl)), (att, .inl (G.2.1 0, 6, .inl ftt)), (ate, .inl (G.2.1 0, 200, .inl (ar_fill fte tU.toNatClampNeg (tU + en).toNatClampNeg (-1))))] H := hP
            have hD : va_D A [(h, .inr (1, [.ref m0, .ref aml, .ref amb, .ref t0, .ref atl, .ref att, .ref ate, .ref b0, .ref asb, .ref r0, .ref asr, .int trp])), (t0, .inr (0, [.int 200, .ref t1, .ref t2, .ref t3, .int tC, .int tU])), (t1, .inl (G.2.1 0, 6, .inl tS)), (t2, .inl (G.2.1 0, 6, .inl tL)), (t3, .inl (G.2.1 2, 6, .inl tD)), (atl, .inl (G.2.1 0, 6, .inl ftl)), (att, .inl (G.2.1 0, 6, .inl ftt)), (ate, .inl (G.2.1 0, 200, .inl (ar_fill fte tU.toNatClampNeg (tU + en).toNatClampNeg (-1))))] := hD
            have hP : va_P G.1 vwC [(h, .inr (1, [.ref m0, .ref aml, .ref amb, .ref t0, .ref atl, .ref att, .ref ate, .ref b0, .ref asb, .ref r0, .ref asr, .int trp])), (t0, .inr (0, [.int 200, .ref t1, .ref t2, .ref t3, .int tC, .int tU])), (t1, .inl (G.2.1 0, 6, .inl tS)), (t2, .inl (G.2.1 0, 6, .inl tL)), (t3, .inl (G.2.1 2, 6, .inl tD)), (atl, .inl (G.2.1 0, 6, .inl ftl)), (att, .inl (G.2.1 0, 6, .inl ftt)), (ate, .inl (G.2.1 0, 200, .inl u_10))] H := by rw [eu_10]; exact hP
            have hD : va_D A [(h, .inr (1, [.ref m0, .ref aml, .ref amb, .ref t0, .ref atl, .ref att, .ref ate, .ref b0, .ref asb, .ref r0, .ref asr, .int trp])), (t0, .inr (0, [.int 200, .ref t1, .ref t2, .ref t3, .int tC, .int tU])), (t1, .inl (G.2.1 0, 6, .inl tS)), (t2, .inl (G.2.1 0, 6, .inl tL)), (t3, .inl (G.2.1 2, 6, .inl tD)), (atl, .inl (G.2.1 0, 6, .inl ftl)), (att, .inl (G.2.1 0, 6, .inl ftt)), (ate, .inl (G.2.1 0, 200, .inl u_10))] := by rw [eu_10]; exact hD
            refine lv_aload_n hx hb d_Pm_table_74 rfl (lv_at hl 1 rfl) ?_
            refine va_get (D := G.1) (ci := 1) (v := .ref t0) (C := R_Pm) (T := T_Pm) (N := 12) hx hb hts in_Pm hown hK hP 0 rfl rfl 3 (by decide) (hts _ fl_Pm_26) (fun _ h9 => h9) rfl d_Pm_table_75 ?_
            refine lv_iload_n hx hb d_Pm_table_78 rfl (lv_at hl 3 rfl) ?_
            obtain ⟨h_11, hw⟩ := hw
            obtain ⟨h_12, hw⟩ := hw
            have hPc := hP.sub (ws' := [(t0, .inr (0, [.int 200, .ref t1, .ref t2, .ref t3, .int tC, .int tU])), (t1, .inl (G.2.1 0, 6, .inl tS)), (t2, .inl (G.2.1 0, 6, .inl tL)), (t3, .inl (G.2.1 2, 6, .inl tD))]) [1, 2, 3, 4] rfl
            have hDc := hD.sub (ws' := [(t0, .inr (0, [.int 200, .ref t1, .ref t2, .ref t3, .int tC, .int tU])), (t1, .inl (G.2.1 0, 6, .inl tS)), (t2, .inl (G.2.1 0, 6, .inl tL)), (t3, .inl (G.2.1 2, 6, .inl tD))]) [1, 2, 3, 4] (by decide) rfl
            have hFc := va_free (wc := [(t0, .inr (0, [.int 200, .ref t1, .ref t2, .ref t3, .int tC, .int tU])), (t1, .inl (G.2.1 0, 6, .inl tS)), (t2, .inl (G.2.1 0, 6, .inl tL)), (t3, .inl (G.2.1 2, 6, .inl tD))]) hD hS hA [1, 2, 3, 4] rfl
            refine ip_i (va_runV (As := [.int en]) (rest := []) ⟨hx, hb, hml, hown, hts⟩ (c_Ly_append l G t0 t1 t2 t3 6 200 tC tU tS tL tD en _ h_11 h_12) (cwV 1 hts (gi_V ml_Pm_63 im_Ly_append se_Ly_append ini_Ly co_Ly_append) rfl rfl rfl (by decide +kernel) ⟨Nat.le_of_ble_eq_true rfl, Nat.le_of_ble_eq_true rfl⟩) ⟨cm_blind, va_recv hK hPc (ci := 0) (q0 := 0) rfl rfl, cm_pre hcx hS hPc hDc hFc⟩ rfl rfl hl.1 rfl (lv_room (Nat.le_of_ble_eq_true rfl)) d_Pm_table_79 ⟨Nat.le_of_ble_eq_true rfl, Nat.le_of_ble_eq_true rfl⟩) hS hP hD hA [1, 2, 3, 4] rfl (fun _ => rfl) (fun r9 u9 H locs hp hP hD hS => ?_)
            obtain ⟨e91, e92⟩ := hp; replace e91 := e91.symm; replace e92 := e92.symm; subst e91; subst e92
            obtain ⟨u_13, eu_13⟩ : ∃ z : Nat → Int32, z = upd tS tC.toNatClampNeg tU := ⟨_, rfl⟩
            replace hw := hw u_13 eu_13
            obtain ⟨u_14, eu_14⟩ : ∃ z : Nat → Int32, z = upd tL tC.toNatClampNeg en := ⟨_, rfl⟩
            replace hw := hw u_14 eu_14
            obtain ⟨u_15, eu_15⟩ : ∃ z : Int32, z = tC + 1 := ⟨_, rfl⟩
            replace hw := hw u_15 eu_15
            obtain ⟨u_16, eu_16⟩ : ∃ z : Int32, z = tU + en := ⟨_, rfl⟩
            replace hw := hw u_16 eu_16
            have hP : va_P G.1 vwC [(h, .inr (1, [.ref m0, .ref aml, .ref amb, .ref t0, .ref atl, .ref att, .ref ate, .ref b0, .ref asb, .ref r0, .ref asr, .int trp])), (t0, .inr (0, [.int 200, .ref t1, .ref t2, .ref t3, .int (tC + 1), .int (tU + en)])), (t1, .inl (G.2.1 0, 6, .inl (upd tS tC.toNatClampNeg tU))), (t2, .inl (G.2.1 0, 6, .inl (upd tL tC.toNatClampNeg en))), (t3, .inl (G.2.1 2, 6, .inl tD)), (atl, .inl (G.2.1 0, 6, .inl ftl)), (att, .inl (G.2.1 0, 6, .inl ftt)), (ate, .inl (G.2.1 0, 200, .inl u_10))] H := hP
            have hD : va_D A [(h, .inr (1, [.ref m0, .ref aml, .ref amb, .ref t0, .ref atl, .ref att, .ref ate, .ref b0, .ref asb, .ref r0, .ref asr, .int trp])), (t0, .inr (0, [.int 200, .ref t1, .ref t2, .ref t3, .int (tC + 1), .int (tU + en)])), (t1, .inl (G.2.1 0, 6, .inl (upd tS tC.toNatClampNeg tU))), (t2, .inl (G.2.1 0, 6, .inl (upd tL tC.toNatClampNeg en))), (t3, .inl (G.2.1 2, 6, .inl tD)), (atl, .inl (G.2.1 0, 6, .inl ftl)), (att, .inl (G.2.1 0, 6, .inl ftt)), (ate, .inl (G.2.1 0, 200, .inl u_10))] := hD
            have hP : va_P G.1 vwC [(h, .inr (1, [.ref m0, .ref aml, .ref amb, .ref t0, .ref atl, .ref att, .ref ate, .ref b0, .ref asb, .ref r0, .ref asr, .int trp])), (t0, .inr (0, [.int 200, .ref t1, .ref t2, .ref t3, .int u_15, .int u_16])), (t1, .inl (G.2.1 0, 6, .inl u_13)), (t2, .inl (G.2.1 0, 6, .inl u_14)), (t3, .inl (G.2.1 2, 6, .inl tD)), (atl, .inl (G.2.1 0, 6, .inl ftl)), (att, .inl (G.2.1 0, 6, .inl ftt)), (ate, .inl (G.2.1 0, 200, .inl u_10))] H := by rw [eu_13]; rw [eu_14]; rw [eu_15]; rw [eu_16]; exact hP
            have hD : va_D A [(h, .inr (1, [.ref m0, .ref aml, .ref amb, .ref t0, .ref atl, .ref att, .ref ate, .ref b0, .ref asb, .ref r0, .ref asr, .int trp])), (t0, .inr (0, [.int 200, .ref t1, .ref t2, .ref t3, .int u_15, .int u_16])), (t1, .inl (G.2.1 0, 6, .inl u_13)), (t2, .inl (G.2.1 0, 6, .inl u_14)), (t3, .inl (G.2.1 2, 6, .inl tD)), (atl, .inl (G.2.1 0, 6, .inl ftl)), (att, .inl (G.2.1 0, 6, .inl ftt)), (ate, .inl (G.2.1 0, 200, .inl u_10))] := by rw [eu_13]; rw [eu_14]; rw [eu_15]; rw [eu_16]; exact hD
            refine lv_istore (lv' := [(5, .int tC), (4, .int tU), (0, .ref h), (1, .int typ), (2, .int en), (3, .int lim)]) hx hb d_Pm_table_82 hl (by decide) rfl (fun ls hl => ?_)
            refine lv_aload_n hx hb d_Pm_table_84 rfl (lv_at hl 2 rfl) ?_
            refine va_get (D := G.1) (ci := 1) (v := .ref att) (C := R_Pm) (T := T_Pm) (N := 12) hx hb hts in_Pm hown hK hP 0 rfl rfl 5 (by decide) (hts _ fl_Pm_32) (fun _ h9 => h9) rfl d_Pm_table_85 ?_
            refine lv_iload hx hb d_Pm_table_88 (lv_at hl 0 rfl) ?_
            refine lv_iload_n hx hb d_Pm_table_90 rfl (lv_at hl 3 rfl) ?_
            obtain ⟨h_17, hw⟩ := hw
            obtain ⟨a_18, ea_18⟩ : ∃ z, z = upd ftt tC.toNatClampNeg typ := ⟨_, rfl⟩
            replace hw := hw a_18 ea_18
            refine va_iast hx hb hK hP hD hS 6 0 rfl rfl h_17 d_Pm_table_91 (fun H locs hP hD hS => ?_)
            rw [← ea_18] at hP hD
            have hP : va_P G.1 vwC [(h, .inr (1, [.ref m0, .ref aml, .ref amb, .ref t0, .ref atl, .ref att, .ref ate, .ref b0, .ref asb, .ref r0, .ref asr, .int trp])), (t0, .inr (0, [.int 200, .ref t1, .ref t2, .ref t3, .int u_15, .int u_16])), (t1, .inl (G.2.1 0, 6, .inl u_13)), (t2, .inl (G.2.1 0, 6, .inl u_14)), (t3, .inl (G.2.1 2, 6, .inl tD)), (atl, .inl (G.2.1 0, 6, .inl ftl)), (att, .inl (G.2.1 0, 6, .inl a_18)), (ate, .inl (G.2.1 0, 200, .inl u_10))] H := hP
            have hD : va_D A [(h, .inr (1, [.ref m0, .ref aml, .ref amb, .ref t0, .ref atl, .ref att, .ref ate, .ref b0, .ref asb, .ref r0, .ref asr, .int trp])), (t0, .inr (0, [.int 200, .ref t1, .ref t2, .ref t3, .int u_15, .int u_16])), (t1, .inl (G.2.1 0, 6, .inl u_13)), (t2, .inl (G.2.1 0, 6, .inl u_14)), (t3, .inl (G.2.1 2, 6, .inl tD)), (atl, .inl (G.2.1 0, 6, .inl ftl)), (att, .inl (G.2.1 0, 6, .inl a_18)), (ate, .inl (G.2.1 0, 200, .inl u_10))] := hD
            refine lv_aload_n hx hb d_Pm_table_92 rfl (lv_at hl 2 rfl) ?_
            refine va_get (D := G.1) (ci := 1) (v := .ref atl) (C := R_Pm) (T := T_Pm) (N := 12) hx hb hts in_Pm hown hK hP 0 rfl rfl 4 (by decide) (hts _ fl_Pm_29) (fun _ h9 => h9) rfl d_Pm_table_93 ?_
            refine lv_iload hx hb d_Pm_table_96 (lv_at hl 0 rfl) ?_
            refine lv_iload_n hx hb d_Pm_table_98 rfl (lv_at hl 5 rfl) ?_
            obtain ⟨h_19, hw⟩ := hw
            obtain ⟨a_20, ea_20⟩ : ∃ z, z = upd ftl tC.toNatClampNeg lim := ⟨_, rfl⟩
            replace hw := hw a_20 ea_20
            refine va_iast hx hb hK hP hD hS 5 0 rfl rfl h_19 d_Pm_table_99 (fun H locs hP hD hS => ?_)
            rw [← ea_20] at hP hD
            have hP : va_P G.1 vwC [(h, .inr (1, [.ref m0, .ref aml, .ref amb, .ref t0, .ref atl, .ref att, .ref ate, .ref b0, .ref asb, .ref r0, .ref asr, .int trp])), (t0, .inr (0, [.int 200, .ref t1, .ref t2, .ref t3, .int u_15, .int u_16])), (t1, .inl (G.2.1 0, 6, .inl u_13)), (t2, .inl (G.2.1 0, 6, .inl u_14)), (t3, .inl (G.2.1 2, 6, .inl tD)), (atl, .inl (G.2.1 0, 6, .inl a_20)), (att, .inl (G.2.1 0, 6, .inl a_18)), (ate, .inl (G.2.1 0, 200, .inl u_10))] H := hP
            have hD : va_D A [(h, .inr (1, [.ref m0, .ref aml, .ref amb, .ref t0, .ref atl, .ref att, .ref ate, .ref b0, .ref asb, .ref r0, .ref asr, .int trp])), (t0, .inr (0, [.int 200, .ref t1, .ref t2, .ref t3, .int u_15, .int u_16])), (t1, .inl (G.2.1 0, 6, .inl u_13)), (t2, .inl (G.2.1 0, 6, .inl u_14)), (t3, .inl (G.2.1 2, 6, .inl tD)), (atl, .inl (G.2.1 0, 6, .inl a_20)), (att, .inl (G.2.1 0, 6, .inl a_18)), (ate, .inl (G.2.1 0, 200, .inl u_10))] := hD
            refine lv_iload hx hb d_Pm_table_100 (lv_at hl 0 rfl) ?_
            exact W.iret (v := tC) hx hb hr (fun t ht hW => ⟨⟨tC, (u_13, u_14, u_15, u_16, a_20, a_18, u_10), rfl, hw, by have h9 := hP; rw [← ht] at h9; exact h9⟩, hS.F ht⟩) hS.2.2 d_Pm_table_102
          · replace hw := hw.2 c_5
            refine lv_iconst (v := (-1)) hx hb d_Pm_table_49 (by decide) ?_
            exact W.iret (v := (-1)) hx hb hr (fun t ht hW => ⟨⟨(-1), (tS, tL, tC, tU, ftl, ftt, fte), rfl, hw, by have h9 := hP; rw [← ht] at h9; exact h9⟩, hS.F ht⟩) hS.2.2 d_Pm_table_50
    · replace hw := hw.2 c_2
      refine lv_iload_n hx hb d_Pm_table_16 rfl (lv_at hl 1 rfl) ?_
      refine lv_bipush (v := 111) hx hb d_Pm_table_17 (by decide) ?_
      refine lv_icmp_eq (tgt := 24) hx hb d_Pm_table_19 (by decide) (fun c_21 => ?_) (fun c_21 => ?_)
      · replace hw := hw.1 c_21
        refine lv_iload_n hx hb d_Pm_table_24 rfl (lv_at hl 2 rfl) ?_
        refine lv_if_lt (tgt := 49) hx hb d_Pm_table_25 (by decide) (fun c_22 => ?_) (fun c_22 => ?_)
        · replace hw := hw.1 c_22
          refine lv_iconst (v := (-1)) hx hb d_Pm_table_49 (by decide) ?_
          exact W.iret (v := (-1)) hx hb hr (fun t ht hW => ⟨⟨(-1), (tS, tL, tC, tU, ftl, ftt, fte), rfl, hw, by have h9 := hP; rw [← ht] at h9; exact h9⟩, hS.F ht⟩) hS.2.2 d_Pm_table_50
        · replace hw := hw.2 c_22
          refine lv_iload_n hx hb d_Pm_table_28 rfl (lv_at hl 2 rfl) ?_
          refine lv_i2l (v := en.toInt64) hx hb d_Pm_table_29 rfl ?_
          refine lv_iload_n hx hb d_Pm_table_30 rfl (lv_at hl 3 rfl) ?_
          have hPc := hP.sub (ws' := []) [] rfl
          refine pu_l (va_runS (As := [.int lim]) (rest := [.long en.toInt64]) ⟨hx, hb, hml, hown, hts⟩ (c_Pm_unsigned l G lim) (va_cwS 1 hts (gi_S ml_Pm_74 sm_Pm_unsigned ini_Pm co_Pm_unsigned) rfl rfl rfl (by decide +kernel) ⟨Nat.le_of_ble_eq_true rfl, Nat.le_of_ble_eq_true rfl⟩) ⟨cp_blind, cp_pre hcx hS hPc⟩ rfl rfl hl.1 rfl (lv_room (Nat.le_of_ble_eq_true rfl)) d_Pm_table_31 ⟨Nat.le_of_ble_eq_true rfl, Nat.le_of_ble_eq_true rfl⟩) hS hP (fun H locs hP hS => ?_)
          refine W.lcmp hx hb d_Pm_table_34 ?_
          refine lv_if_gt (tgt := 49) hx hb d_Pm_table_35 (by decide) (fun c_23 => ?_) (fun c_23 => ?_)
          · replace hw := hw.1 c_23
            refine lv_iconst (v := (-1)) hx hb d_Pm_table_49 (by decide) ?_
            exact W.iret (v := (-1)) hx hb hr (fun t ht hW => ⟨⟨(-1), (tS, tL, tC, tU, ftl, ftt, fte), rfl, hw, by have h9 := hP; rw [← ht] at h9; exact h9⟩, hS.F ht⟩) hS.2.2 d_Pm_table_50
          · replace hw := hw.2 c_23
            refine lv_iload_n hx hb d_Pm_table_38 rfl (lv_at hl 2 rfl) ?_
            refine lv_aload_n hx hb d_Pm_table_39 rfl (lv_at hl 0 rfl) ?_
            refine va_get (D := G.1) (ci := 1) (v := .ref t0) (C := R_Pm) (T := T_Pm) (N := 12) hx hb hts in_Pm hown hK hP 0 rfl rfl 3 (by decide) (hts _ fl_Pm_26) (fun _ h9 => h9) rfl d_Pm_table_40 ?_
            have hPc := hP.sub (ws' := [(t0, .inr (0, [.int 200, .ref t1, .ref t2, .ref t3, .int tC, .int tU])), (t1, .inl (G.2.1 0, 6, .inl tS)), (t2, .inl (G.2.1 0, 6, .inl tL)), (t3, .inl (G.2.1 2, 6, .inl tD))]) [1, 2, 3, 4] rfl
            refine pu_i (va_runV (As := []) (rest := [.int en]) ⟨hx, hb, hml, hown, hts⟩ (c_Ly_left l G t0 t1 t2 t3 6 200 tC tU tS tL tD) (cwV 0 hts (gi_V ml_Pm_150 im_Ly_left se_Ly_left ini_Ly co_Ly_left) rfl rfl rfl (by decide +kernel) ⟨Nat.le_of_ble_eq_true rfl, Nat.le_of_ble_eq_true rfl⟩) ⟨cp_blind, va_recv hK hPc (ci := 0) (q0 := 0) rfl rfl, cp_pre hcx hS hPc⟩ rfl rfl hl.1 rfl (lv_room (Nat.le_of_ble_eq_true rfl)) d_Pm_table_43 ⟨Nat.le_of_ble_eq_true rfl, Nat.le_of_ble_eq_true rfl⟩) hS hP (fun H locs hP hS => ?_)
            refine lv_icmp_le (tgt := 51) hx hb d_Pm_table_46 (by decide) (fun c_24 => ?_) (fun c_24 => ?_)
            · replace hw := hw.1 c_24
              refine lv_aload_n hx hb d_Pm_table_51 rfl (lv_at hl 0 rfl) ?_
              refine va_get (D := G.1) (ci := 1) (v := .ref t0) (C := R_Pm) (T := T_Pm) (N := 12) hx hb hts in_Pm hown hK hP 0 rfl rfl 3 (by decide) (hts _ fl_Pm_26) (fun _ h9 => h9) rfl d_Pm_table_52 ?_
              have hPc := hP.sub (ws' := [(t0, .inr (0, [.int 200, .ref t1, .ref t2, .ref t3, .int tC, .int tU])), (t1, .inl (G.2.1 0, 6, .inl tS)), (t2, .inl (G.2.1 0, 6, .inl tL)), (t3, .inl (G.2.1 2, 6, .inl tD))]) [1, 2, 3, 4] rfl
              refine pu_i (va_runV (As := []) (rest := []) ⟨hx, hb, hml, hown, hts⟩ (c_Ly_used l G t0 t1 t2 t3 6 200 tC tU tS tL tD) (cwV 0 hts (gi_V ml_Pm_81 im_Ly_used se_Ly_used ini_Ly co_Ly_used) rfl rfl rfl (by decide +kernel) ⟨Nat.le_of_ble_eq_true rfl, Nat.le_of_ble_eq_true rfl⟩) ⟨cp_blind, va_recv hK hPc (ci := 0) (q0 := 0) rfl rfl, cp_pre hcx hS hPc⟩ rfl rfl hl.1 rfl (lv_room (Nat.le_of_ble_eq_true rfl)) d_Pm_table_55 ⟨Nat.le_of_ble_eq_true rfl, Nat.le_of_ble_eq_true rfl⟩) hS hP (fun H locs hP hS => ?_)
              refine lv_istore (lv' := [(4, .int tU), (0, .ref h), (1, .int typ), (2, .int en), (3, .int lim)]) hx hb d_Pm_table_58 hl (by decide) rfl (fun ls hl => ?_)
              refine lv_aload_n hx hb d_Pm_table_60 rfl (lv_at hl 1 rfl) ?_
              refine va_get (D := G.1) (ci := 1) (v := .ref ate) (C := R_Pm) (T := T_Pm) (N := 12) hx hb hts in_Pm hown hK hP 0 rfl rfl 6 (by decide) (hts _ fl_Pm_35) (fun _ h9 => h9) rfl d_Pm_table_61 ?_
              refine lv_iload hx hb d_Pm_table_64 (lv_at hl 0 rfl) ?_
              refine lv_iload hx hb d_Pm_table_66 (lv_at hl 0 rfl) ?_
              refine lv_iload_n hx hb d_Pm_table_68 rfl (lv_at hl 3 rfl) ?_
              refine lv_iadd hx hb d_Pm_table_69 ?_
              refine lv_iconst (v := (-1)) hx hb d_Pm_table_70 (by decide) ?_
              obtain ⟨h_25, hw⟩ := hw
              obtain ⟨h_26, hw⟩ := hw
              obtain ⟨h_27, hw⟩ := hw
              obtain ⟨h_28, hw⟩ := hw
              have hPc := hP.sub (ws' := [(ate, .inl (G.2.1 0, 200, .inl fte))]) [7] rfl
              have hDc := hD.sub (ws' := [(ate, .inl (G.2.1 0, 200, .inl fte))]) [7] (by decide) rfl
              have hFc := va_free (wc := [(ate, .inl (G.2.1 0, 200, .inl fte))]) hD hS hA [7] rfl
              refine ip_v (va_runS (As := [.ref ate, .int tU, .int (tU + en), .int (-1)]) (rest := []) ⟨hx, hb, hml, hown, hts⟩ (c_Ar_fillI l G ate 200 fte tU (tU + en) (-1) _ h_25 h_26 h_27 h_28) (va_cwS 4 hts (gi_S ml_Pm_153 sm_Ar_fillI ini_Ar co_Ar_fillI) rfl rfl rfl (by decide +kernel) ⟨Nat.le_of_ble_eq_true rfl, Nat.le_of_ble_eq_true rfl⟩) ⟨cm_blind, cm_pre hcx hS hPc hDc hFc⟩ rfl rfl hl.1 rfl (lv_room (Nat.le_of_ble_eq_true rfl)) d_Pm_table_71 ⟨Nat.le_of_ble_eq_true rfl, Nat.le_of_ble_eq_true rfl⟩) hS hP hD hA [7] rfl (fun _ => rfl) (fun u9 H locs hp hP hD hS => ?_)
              replace hp := hp.symm; subst hp
              obtain ⟨u_29, eu_29⟩ : ∃ z : Nat → Int32, z = ar_fill fte tU.toNatClampNeg (tU + en).toNatClampNeg (-1) := ⟨_, rfl⟩
              replace hw := hw u_29 eu_29
              have hP : va_P G.1 vwC [(h, .inr (1, [.ref m0, .ref aml, .ref amb, .ref t0, .ref atl, .ref att, .ref ate, .ref b0, .ref asb, .ref r0, .ref asr, .int trp])), (t0, .inr (0, [.int 200, .ref t1, .ref t2, .ref t3, .int tC, .int tU])), (t1, .inl (G.2.1 0, 6, .inl tS)), (t2, .inl (G.2.1 0, 6, .inl tL)), (t3, .inl (G.2.1 2, 6, .inl tD)), (atl, .inl (G.2.1 0, 6, .inl ftl)), (att, .inl (G.2.1 0, 6, .inl ftt)), (ate, .inl (G.2.1 0, 200, .inl (ar_fill fte tU.toNatClampNeg (tU + en).toNatClampNeg (-1))))] H := hP
              have hD : va_D A [(h, .inr (1, [.ref m0, .ref aml, .ref amb, .ref t0, .ref atl, .ref att, .ref ate, .ref b0, .ref asb, .ref r0, .ref asr, .int trp])), (t0, .inr (0, [.int 200, .ref t1, .ref t2, .ref t3, .int tC, .int tU])), (t1, .inl (G.2.1 0, 6, .inl tS)), (t2, .inl (G.2.1 0, 6, .inl tL)), (t3, .inl (G.2.1 2, 6, .inl tD)), (atl, .inl (G.2.1 0, 6, .inl ftl)), (att, .inl (G.2.1 0, 6, .inl ftt)), (ate, .inl (G.2.1 0, 200, .inl (ar_fill fte tU.toNatClampNeg (tU + en).toNatClampNeg (-1))))] := hD
              have hP : va_P G.1 vwC [(h, .inr (1, [.ref m0, .ref aml, .ref amb, .ref t0, .ref atl, .ref att, .ref ate, .ref b0, .ref asb, .ref r0, .ref asr, .int trp])), (t0, .inr (0, [.int 200, .ref t1, .ref t2, .ref t3, .int tC, .int tU])), (t1, .inl (G.2.1 0, 6, .inl tS)), (t2, .inl (G.2.1 0, 6, .inl tL)), (t3, .inl (G.2.1 2, 6, .inl tD)), (atl, .inl (G.2.1 0, 6, .inl ftl)), (att, .inl (G.2.1 0, 6, .inl ftt)), (ate, .inl (G.2.1 0, 200, .inl u_29))] H := by rw [eu_29]; exact hP
              have hD : va_D A [(h, .inr (1, [.ref m0, .ref aml, .ref amb, .ref t0, .ref atl, .ref att, .ref ate, .ref b0, .ref asb, .ref r0, .ref asr, .int trp])), (t0, .inr (0, [.int 200, .ref t1, .ref t2, .ref t3, .int tC, .int tU])), (t1, .inl (G.2.1 0, 6, .inl tS)), (t2, .inl (G.2.1 0, 6, .inl tL)), (t3, .inl (G.2.1 2, 6, .inl tD)), (atl, .inl (G.2.1 0, 6, .inl ftl)), (att, .inl (G.2.1 0, 6, .inl ftt)), (ate, .inl (G.2.1 0, 200, .inl u_29))] := by rw [eu_29]; exact hD
              refine lv_aload_n hx hb d_Pm_table_74 rfl (lv_at hl 1 rfl) ?_
              refine va_get (D := G.1) (ci := 1) (v := .ref t0) (C := R_Pm) (T := T_Pm) (N := 12) hx hb hts in_Pm hown hK hP 0 rfl rfl 3 (by decide) (hts _ fl_Pm_26) (fun _ h9 => h9) rfl d_Pm_table_75 ?_
              refine lv_iload_n hx hb d_Pm_table_78 rfl (lv_at hl 3 rfl) ?_
              obtain ⟨h_30, hw⟩ := hw
              obtain ⟨h_31, hw⟩ := hw
              have hPc := hP.sub (ws' := [(t0, .inr (0, [.int 200, .ref t1, .ref t2, .ref t3, .int tC, .int tU])), (t1, .inl (G.2.1 0, 6, .inl tS)), (t2, .inl (G.2.1 0, 6, .inl tL)), (t3, .inl (G.2.1 2, 6, .inl tD))]) [1, 2, 3, 4] rfl
              have hDc := hD.sub (ws' := [(t0, .inr (0, [.int 200, .ref t1, .ref t2, .ref t3, .int tC, .int tU])), (t1, .inl (G.2.1 0, 6, .inl tS)), (t2, .inl (G.2.1 0, 6, .inl tL)), (t3, .inl (G.2.1 2, 6, .inl tD))]) [1, 2, 3, 4] (by decide) rfl
              have hFc := va_free (wc := [(t0, .inr (0, [.int 200, .ref t1, .ref t2, .ref t3, .int tC, .int tU])), (t1, .inl (G.2.1 0, 6, .inl tS)), (t2, .inl (G.2.1 0, 6, .inl tL)), (t3, .inl (G.2.1 2, 6, .inl tD))]) hD hS hA [1, 2, 3, 4] rfl
              refine ip_i (va_runV (As := [.int en]) (rest := []) ⟨hx, hb, hml, hown, hts⟩ (c_Ly_append l G t0 t1 t2 t3 6 200 tC tU tS tL tD en _ h_30 h_31) (cwV 1 hts (gi_V ml_Pm_63 im_Ly_append se_Ly_append ini_Ly co_Ly_append) rfl rfl rfl (by decide +kernel) ⟨Nat.le_of_ble_eq_true rfl, Nat.le_of_ble_eq_true rfl⟩) ⟨cm_blind, va_recv hK hPc (ci := 0) (q0 := 0) rfl rfl, cm_pre hcx hS hPc hDc hFc⟩ rfl rfl hl.1 rfl (lv_room (Nat.le_of_ble_eq_true rfl)) d_Pm_table_79 ⟨Nat.le_of_ble_eq_true rfl, Nat.le_of_ble_eq_true rfl⟩) hS hP hD hA [1, 2, 3, 4] rfl (fun _ => rfl) (fun r9 u9 H locs hp hP hD hS => ?_)
              obtain ⟨e91, e92⟩ := hp; replace e91 := e91.symm; replace e92 := e92.symm; subst e91; subst e92
              obtain ⟨u_32, eu_32⟩ : ∃ z : Nat → Int32, z = upd tS tC.toNatClampNeg tU := ⟨_, rfl⟩
              replace hw := hw u_32 eu_32
              obtain ⟨u_33, eu_33⟩ : ∃ z : Nat → Int32, z = upd tL tC.toNatClampNeg en := ⟨_, rfl⟩
              replace hw := hw u_33 eu_33
              obtain ⟨u_34, eu_34⟩ : ∃ z : Int32, z = tC + 1 := ⟨_, rfl⟩
              replace hw := hw u_34 eu_34
              obtain ⟨u_35, eu_35⟩ : ∃ z : Int32, z = tU + en := ⟨_, rfl⟩
              replace hw := hw u_35 eu_35
              have hP : va_P G.1 vwC [(h, .inr (1, [.ref m0, .ref aml, .ref amb, .ref t0, .ref atl, .ref att, .ref ate, .ref b0, .ref asb, .ref r0, .ref asr, .int trp])), (t0, .inr (0, [.int 200, .ref t1, .ref t2, .ref t3, .int (tC + 1), .int (tU + en)])), (t1, .inl (G.2.1 0, 6, .inl (upd tS tC.toNatClampNeg tU))), (t2, .inl (G.2.1 0, 6, .inl (upd tL tC.toNatClampNeg en))), (t3, .inl (G.2.1 2, 6, .inl tD)), (atl, .inl (G.2.1 0, 6, .inl ftl)), (att, .inl (G.2.1 0, 6, .inl ftt)), (ate, .inl (G.2.1 0, 200, .inl u_29))] H := hP
              have hD : va_D A [(h, .inr (1, [.ref m0, .ref aml, .ref amb, .ref t0, .ref atl, .ref att, .ref ate, .ref b0, .ref asb, .ref r0, .ref asr, .int trp])), (t0, .inr (0, [.int 200, .ref t1, .ref t2, .ref t3, .int (tC + 1), .int (tU + en)])), (t1, .inl (G.2.1 0, 6, .inl (upd tS tC.toNatClampNeg tU))), (t2, .inl (G.2.1 0, 6, .inl (upd tL tC.toNatClampNeg en))), (t3, .inl (G.2.1 2, 6, .inl tD)), (atl, .inl (G.2.1 0, 6, .inl ftl)), (att, .inl (G.2.1 0, 6, .inl ftt)), (ate, .inl (G.2.1 0, 200, .inl u_29))] := hD
              have hP : va_P G.1 vwC [(h, .inr (1, [.ref m0, .ref aml, .ref amb, .ref t0, .ref atl, .ref att, .ref ate, .ref b0, .ref asb, .ref r0, .ref asr, .int trp])), (t0, .inr (0, [.int 200, .ref t1, .ref t2, .ref t3, .int u_34, .int u_35])), (t1, .inl (G.2.1 0, 6, .inl u_32)), (t2, .inl (G.2.1 0, 6, .inl u_33)), (t3, .inl (G.2.1 2, 6, .inl tD)), (atl, .inl (G.2.1 0, 6, .inl ftl)), (att, .inl (G.2.1 0, 6, .inl ftt)), (ate, .inl (G.2.1 0, 200, .inl u_29))] H := by rw [eu_32]; rw [eu_33]; rw [eu_34]; rw [eu_35]; exact hP
              have hD : va_D A [(h, .inr (1, [.ref m0, .ref aml, .ref amb, .ref t0, .ref atl, .ref att, .ref ate, .ref b0, .ref asb, .ref r0, .ref asr, .int trp])), (t0, .inr (0, [.int 200, .ref t1, .ref t2, .ref t3, .int u_34, .int u_35])), (t1, .inl (G.2.1 0, 6, .inl u_32)), (t2, .inl (G.2.1 0, 6, .inl u_33)), (t3, .inl (G.2.1 2, 6, .inl tD)), (atl, .inl (G.2.1 0, 6, .inl ftl)), (att, .inl (G.2.1 0, 6, .inl ftt)), (ate, .inl (G.2.1 0, 200, .inl u_29))] := by rw [eu_32]; rw [eu_33]; rw [eu_34]; rw [eu_35]; exact hD
              refine lv_istore (lv' := [(5, .int tC), (4, .int tU), (0, .ref h), (1, .int typ), (2, .int en), (3, .int lim)]) hx hb d_Pm_table_82 hl (by decide) rfl (fun ls hl => ?_)
              refine lv_aload_n hx hb d_Pm_table_84 rfl (lv_at hl 2 rfl) ?_
              refine va_get (D := G.1) (ci := 1) (v := .ref att) (C := R_Pm) (T := T_Pm) (N := 12) hx hb hts in_Pm hown hK hP 0 rfl rfl 5 (by decide) (hts _ fl_Pm_32) (fun _ h9 => h9) rfl d_Pm_table_85 ?_
              refine lv_iload hx hb d_Pm_table_88 (lv_at hl 0 rfl) ?_
              refine lv_iload_n hx hb d_Pm_table_90 rfl (lv_at hl 3 rfl) ?_
              obtain ⟨h_36, hw⟩ := hw
              obtain ⟨a_37, ea_37⟩ : ∃ z, z = upd ftt tC.toNatClampNeg typ := ⟨_, rfl⟩
              replace hw := hw a_37 ea_37
              refine va_iast hx hb hK hP hD hS 6 0 rfl rfl h_36 d_Pm_table_91 (fun H locs hP hD hS => ?_)
              rw [← ea_37] at hP hD
              have hP : va_P G.1 vwC [(h, .inr (1, [.ref m0, .ref aml, .ref amb, .ref t0, .ref atl, .ref att, .ref ate, .ref b0, .ref asb, .ref r0, .ref asr, .int trp])), (t0, .inr (0, [.int 200, .ref t1, .ref t2, .ref t3, .int u_34, .int u_35])), (t1, .inl (G.2.1 0, 6, .inl u_32)), (t2, .inl (G.2.1 0, 6, .inl u_33)), (t3, .inl (G.2.1 2, 6, .inl tD)), (atl, .inl (G.2.1 0, 6, .inl ftl)), (att, .inl (G.2.1 0, 6, .inl a_37)), (ate, .inl (G.2.1 0, 200, .inl u_29))] H := hP
              have hD : va_D A [(h, .inr (1, [.ref m0, .ref aml, .ref amb, .ref t0, .ref atl, .ref att, .ref ate, .ref b0, .ref asb, .ref r0, .ref asr, .int trp])), (t0, .inr (0, [.int 200, .ref t1, .ref t2, .ref t3, .int u_34, .int u_35])), (t1, .inl (G.2.1 0, 6, .inl u_32)), (t2, .inl (G.2.1 0, 6, .inl u_33)), (t3, .inl (G.2.1 2, 6, .inl tD)), (atl, .inl (G.2.1 0, 6, .inl ftl)), (att, .inl (G.2.1 0, 6, .inl a_37)), (ate, .inl (G.2.1 0, 200, .inl u_29))] := hD
              refine lv_aload_n hx hb d_Pm_table_92 rfl (lv_at hl 2 rfl) ?_
              refine va_get (D := G.1) (ci := 1) (v := .ref atl) (C := R_Pm) (T := T_Pm) (N := 12) hx hb hts in_Pm hown hK hP 0 rfl rfl 4 (by decide) (hts _ fl_Pm_29) (fun _ h9 => h9) rfl d_Pm_table_93 ?_
              refine lv_iload hx hb d_Pm_table_96 (lv_at hl 0 rfl) ?_
              refine lv_iload_n hx hb d_Pm_table_98 rfl (lv_at hl 5 rfl) ?_
              obtain ⟨h_38, hw⟩ := hw
              obtain ⟨a_39, ea_39⟩ : ∃ z, z = upd ftl tC.toNatClampNeg lim := ⟨_, rfl⟩
              replace hw := hw a_39 ea_39
              refine va_iast hx hb hK hP hD hS 5 0 rfl rfl h_38 d_Pm_table_99 (fun H locs hP hD hS => ?_)
              rw [← ea_39] at hP hD
              have hP : va_P G.1 vwC [(h, .inr (1, [.ref m0, .ref aml, .ref amb, .ref t0, .ref atl, .ref att, .ref ate, .ref b0, .ref asb, .ref r0, .ref asr, .int trp])), (t0, .inr (0, [.int 200, .ref t1, .ref t2, .ref t3, .int u_34, .int u_35])), (t1, .inl (G.2.1 0, 6, .inl u_32)), (t2, .inl (G.2.1 0, 6, .inl u_33)), (t3, .inl (G.2.1 2, 6, .inl tD)), (atl, .inl (G.2.1 0, 6, .inl a_39)), (att, .inl (G.2.1 0, 6, .inl a_37)), (ate, .inl (G.2.1 0, 200, .inl u_29))] H := hP
              have hD : va_D A [(h, .inr (1, [.ref m0, .ref aml, .ref amb, .ref t0, .ref atl, .ref att, .ref ate, .ref b0, .ref asb, .ref r0, .ref asr, .int trp])), (t0, .inr (0, [.int 200, .ref t1, .ref t2, .ref t3, .int u_34, .int u_35])), (t1, .inl (G.2.1 0, 6, .inl u_32)), (t2, .inl (G.2.1 0, 6, .inl u_33)), (t3, .inl (G.2.1 2, 6, .inl tD)), (atl, .inl (G.2.1 0, 6, .inl a_39)), (att, .inl (G.2.1 0, 6, .inl a_37)), (ate, .inl (G.2.1 0, 200, .inl u_29))] := hD
              refine lv_iload hx hb d_Pm_table_100 (lv_at hl 0 rfl) ?_
              exact W.iret (v := tC) hx hb hr (fun t ht hW => ⟨⟨tC, (u_32, u_33, u_34, u_35, a_39, a_37, u_29), rfl, hw, by have h9 := hP; rw [← ht] at h9; exact h9⟩, hS.F ht⟩) hS.2.2 d_Pm_table_102
            · replace hw := hw.2 c_24
              refine lv_iconst (v := (-1)) hx hb d_Pm_table_49 (by decide) ?_
              exact W.iret (v := (-1)) hx hb hr (fun t ht hW => ⟨⟨(-1), (tS, tL, tC, tU, ftl, ftt, fte), rfl, hw, by have h9 := hP; rw [← ht] at h9; exact h9⟩, hS.F ht⟩) hS.2.2 d_Pm_table_50
      · replace hw := hw.2 c_21
        refine lv_iconst (v := (-1)) hx hb d_Pm_table_22 (by decide) ?_
        exact W.iret (v := (-1)) hx hb hr (fun t ht hW => ⟨⟨(-1), (tS, tL, tC, tU, ftl, ftt, fte), rfl, hw, by have h9 := hP; rw [← ht] at h9; exact h9⟩, hS.F ht⟩) hS.2.2 d_Pm_table_23
def wp_Pm_growTable (post : Int32 → ((Nat → Int32) × (Nat → Int32) × Int32 × (Nat → Int32)) → Prop) (trp : Int32) (tC : Int32) (tU : Int32) (tS : Nat → Int32) (tL : Nat → Int32) (tD : Nat → Int32) (ftl : Nat → Int32) (fte : Nat → Int32) (k : Int32) (ng : Int32) (rf : Int32) : Prop := ((ly_has tC k = 0 → (post (-1) (tS, tL, tU, fte))) ∧ (¬ ly_has tC k = 0 → (((¬ is_ref rf = 0 → ((tC.toInt ≤ 6) ∧ (∀ x_4 : Int32, x_4 = ly_ln tC k tL → (∀ x_5 : Int64, x_5 = u32 ng → ((vp_in k 6) ∧ (((0 < lg_cmp (x_4.toInt64 + x_5) (u32 (ftl k.toNatClampNeg)) → (post (-1) (tS, tL, tU, fte))) ∧ (¬ 0 < lg_cmp (x_4.toInt64 + x_5) (u32 (ftl k.toNatClampNeg)) → (((lg_cmp x_5 ((200 - tU).toInt64) ≤ 0 → ((tC.toInt ≤ 6) ∧ (∀ x_10 : Int32, x_10 = ly_en tC tU k tS tL → ((¬ x_10 < 0) ∧ (¬ x_10 + ng < 0) ∧ (¬ tU - x_10 < 0) ∧ (x_10.toNatClampNeg + (tU - x_10).toNatClampNeg ≤ 200) ∧ ((x_10 + ng).toNatClampNeg + (tU - x_10).toNatClampNeg ≤ 200) ∧ (∀ i, i < (tU - x_10).toNatClampNeg → fits .int (.int (fte (x_10.toNatClampNeg + i))) = true) ∧ ∀ a_17 : Nat → Int32, a_17 = va_cpy fte fte x_10.toNatClampNeg ((x_10 + ng).toNatClampNeg) ((tU - x_10).toNatClampNeg) → ((¬ x_10 < 0) ∧ ((x_10 ≤ (x_10 + ng)) ∧ (((x_10 + ng) ≤ nI 200) ∧ ((200 < 2147483648) ∧ (∀ u_22 : Nat → Int32, u_22 = ar_fill a_17 x_10.toNatClampNeg (x_10 + ng).toNatClampNeg rf → ((tC.toInt ≤ 6) ∧ ((¬ ly_has tC k = 0) ∧ ((6 < 2147483648) ∧ (∀ u_26 : Nat → Int32, u_26 = ly_shift tS k.toNatClampNeg tC.toNatClampNeg ng → (∀ u_27 : Nat → Int32, u_27 = upd tL k.toNatClampNeg (tL k.toNatClampNeg + ng) → (∀ u_28 : Int32, u_28 = tU + ng → (post x_4 (u_26, u_27, u_28, u_22))))))))))))))))) ∧ (¬ lg_cmp x_5 ((200 - tU).toInt64) ≤ 0 → (post (-1) (tS, tL, tU, fte))))))))))))) ∧ (is_ref rf = 0 → (post (-1) (tS, tL, tU, fte)))))))
set_option maxHeartbeats 4000000 in
set_option maxRecDepth 100000 in
theorem t_Pm_growTable (l : Launch) (G : cxT) (h : Nat) (m0 : Nat) (aml : Nat) (amb : Nat) (t0 : Nat) (atl : Nat) (att : Nat) (ate : Nat) (b0 : Nat) (asb : Nat) (r0 : Nat) (asr : Nat) (t1 : Nat) (t2 : Nat) (t3 : Nat) (trp : Int32) (tC : Int32) (tU : Int32) (tS : Nat → Int32) (tL : Nat → Int32) (tD : Nat → Int32) (ftl : Nat → Int32) (fte : Nat → Int32) (k : Int32) (ng : Int32) (rf : Int32) (sz : Nat) (post : Int32 → ((Nat → Int32) × (Nat → Int32) × Int32 × (Nat → Int32)) → Prop) (hw : wp_Pm_growTable post trp tC tU tS tL tD ftl fte k ng rf) : Met l y_Pm_growTable [.code y_Pm_growTable b_Pm_growTable 8 (some .int)] ({ frames := 4, cells := 0, slots := 0, locals := 140 } : Room) (cm G [.ref h, .int k, .int ng, .int rf] [(h, .inr (1, [.ref m0, .ref aml, .ref amb, .ref t0, .ref atl, .ref att, .ref ate, .ref b0, .ref asb, .ref r0, .ref asr, .int trp])), (t0, .inr (0, [.int 200, .ref t1, .ref t2, .ref t3, .int tC, .int tU])), (t1, .inl (G.2.1 0, 6, .inl tS)), (t2, .inl (G.2.1 0, 6, .inl tL)), (t3, .inl (G.2.1 2, 6, .inl tD)), (atl, .inl (G.2.1 0, 6, .inl ftl)), (ate, .inl (G.2.1 0, 200, .inl fte))] sz) (va_Qi post (fun u t => va_P G.1 vwC [(h, .inr (1, [.ref m0, .ref aml, .ref amb, .ref t0, .ref atl, .ref att, .ref ate, .ref b0, .ref asb, .ref r0, .ref asr, .int trp])), (t0, .inr (0, [.int 200, .ref t1, .ref t2, .ref t3, .int tC, .int u.2.2.1])), (t1, .inl (G.2.1 0, 6, .inl u.1)), (t2, .inl (G.2.1 0, 6, .inl u.2.1)), (t3, .inl (G.2.1 2, 6, .inl tD)), (atl, .inl (G.2.1 0, 6, .inl ftl)), (ate, .inl (G.2.1 0, 200, .inl u.2.2.2))] t.heap) (va_A [(h, .inr (1, [.ref m0, .ref aml, .ref amb, .ref t0, .ref atl, .ref att, .ref ate, .ref b0, .ref asb, .ref r0, .ref asr, .int trp])), (t0, .inr (0, [.int 200, .ref t1, .ref t2, .ref t3, .int tC, .int tU])), (t1, .inl (G.2.1 0, 6, .inl tS)), (t2, .inl (G.2.1 0, 6, .inl tL)), (t3, .inl (G.2.1 2, 6, .inl tD)), (atl, .inl (G.2.1 0, 6, .inl ftl)), (ate, .inl (G.2.1 0, 200, .inl fte))] sz)) 0 0 (va_A [(h, .inr (1, [.ref m0, .ref aml, .ref amb, .ref t0, .ref atl, .ref att, .ref ate, .ref b0, .ref asb, .ref r0, .ref asr, .int trp])), (t0, .inr (0, [.int 200, .ref t1, .ref t2, .ref t3, .int tC, .int tU])), (t1, .inl (G.2.1 0, 6, .inl tS)), (t2, .inl (G.2.1 0, 6, .inl tL)), (t3, .inl (G.2.1 2, 6, .inl tD)), (atl, .inl (G.2.1 0, 6, .inl ftl)), (ate, .inl (G.2.1 0, 200, .inl fte))] sz) := by
  refine Met.ofW (cc := b_Pm_growTable) (maxL := 8) (ret := (some .int)) (by decide +kernel) rfl ?_
  intro p e s m args below meth c s₁ B hml hv
  obtain ⟨rfl, hsz, hcx, hP, hD0⟩ := hv
  have hx := B.exec
  have hb := B.bytes
  have hr := B.returns
  have hlocks := B.notSynchronized
  have hown : s.vm.findClass R_Pm = some m.cls := findClass_of_methodNamed B.named
  subst hsz
  have hD := hD0.self (sz := s.heap.size)
  generalize hAe : va_A [(h, .inr (1, [.ref m0, .ref aml, .ref amb, .ref t0, .ref atl, .ref att, .ref ate, .ref b0, .ref asb, .ref r0, .ref asr, .int trp])), (t0, .inr (0, [.int 200, .ref t1, .ref t2, .ref t3, .int tC, .int tU])), (t1, .inl (G.2.1 0, 6, .inl tS)), (t2, .inl (G.2.1 0, 6, .inl tL)), (t3, .inl (G.2.1 2, 6, .inl tD)), (atl, .inl (G.2.1 0, 6, .inl ftl)), (ate, .inl (G.2.1 0, 200, .inl fte))] s.heap.size = A at hD hcx ⊢
  have hA : ∀ q : Nat, s.heap.size ≤ q → A q := fun q h => by rw [← hAe]; exact Or.inr h
  have hS : va_S A s.heap s.heap [] := va_S.rf
  have hts := hcx.now.1 [.ref h, .int k, .int ng, .int rf].toArray
  have hK := hcx.now.2.1
  have hl := lv_entry ([.ref h, .int k, .int ng, .int rf]) (n := 8) (Nat.le_of_ble_eq_true rfl)
  rw [lg_entry_eq]
  generalize (lg_sl ([.ref h, .int k, .int ng, .int rf]) ++ List.replicate (8 - (lg_sl ([.ref h, .int k, .int ng, .int rf])).length) Slot.unset).toArray = ls at hl ⊢
  have hl : lv_has ls 8 [(0, .ref h), (1, .int k), (2, .int ng), (3, .int rf)] := hl
  unfold wp_Pm_growTable at hw
  refine lv_aload_n hx hb d_Pm_growTable_0 rfl (lv_at hl 0 rfl) ?_
  refine va_get (D := G.1) (ci := 1) (v := .ref t0) (C := R_Pm) (T := T_Pm) (N := 12) hx hb hts in_Pm hown hK hP 0 rfl rfl 3 (by decide) (hts _ fl_Pm_26) (fun _ h9 => h9) rfl d_Pm_growTable_1 ?_
  refine lv_iload_n hx hb d_Pm_growTable_4 rfl (lv_at hl 1 rfl) ?_
  have hPc := hP.sub (ws' := [(t0, .inr (0, [.int 200, .ref t1, .ref t2, .ref t3, .int tC, .int tU])), (t1, .inl (G.2.1 0, 6, .inl tS)), (t2, .inl (G.2.1 0, 6, .inl tL)), (t3, .inl (G.2.1 2, 6, .inl tD))]) [1, 2, 3, 4] rfl
  refine pu_i (va_runV (As := [.int k]) (rest := []) ⟨hx, hb, hml, hown, hts⟩ (c_Ly_has l G t0 t1 t2 t3 6 200 tC tU tS tL tD k) (cwV 1 hts (gi_V ml_Pm_67 im_Ly_has se_Ly_has ini_Ly co_Ly_has) rfl rfl rfl (by decide +kernel) ⟨Nat.le_of_ble_eq_true rfl, Nat.le_of_ble_eq_true rfl⟩) ⟨cp_blind, va_recv hK hPc (ci := 0) (q0 := 0) rfl rfl, cp_pre hcx hS hPc⟩ rfl rfl hl.1 rfl (lv_room (Nat.le_of_ble_eq_true rfl)) d_Pm_growTable_5 ⟨Nat.le_of_ble_eq_true rfl, Nat.le_of_ble_eq_true rfl⟩) hS hP (fun H locs hP hS => ?_)
  refine lv_if_eq (tgt := 18) hx hb d_Pm_growTable_8 (by decide) (fun c_1 => ?_) (fun c_1 => ?_)
  · replace hw := hw.1 c_1
    refine lv_iconst (v := (-1)) hx hb d_Pm_growTable_18 (by decide) ?_
    exact W.iret (v := (-1)) hx hb hr (fun t ht hW => ⟨⟨(-1), (tS, tL, tU, fte), rfl, hw, by have h9 := hP; rw [← ht] at h9; exact h9⟩, hS.F ht⟩) hS.2.2 d_Pm_growTable_19
  · replace hw := hw.2 c_1
    refine lv_iload_n hx hb d_Pm_growTable_11 rfl (lv_at hl 3 rfl) ?_
    have hPc := hP.sub (ws' := []) [] rfl
    refine pu_i (va_runS (As := [.int rf]) (rest := []) ⟨hx, hb, hml, hown, hts⟩ (c_Pm_isReference l G rf) (va_cwS 1 hts (gi_S ml_Pm_158 sm_Pm_isReference ini_Pm co_Pm_isReference) rfl rfl rfl (by decide +kernel) ⟨Nat.le_of_ble_eq_true rfl, Nat.le_of_ble_eq_true rfl⟩) ⟨cp_blind, cp_pre hcx hS hPc⟩ rfl rfl hl.1 rfl (lv_room (Nat.le_of_ble_eq_true rfl)) d_Pm_growTable_12 ⟨Nat.le_of_ble_eq_true rfl, Nat.le_of_ble_eq_true rfl⟩) hS hP (fun H locs hP hS => ?_)
    refine lv_if_ne (tgt := 20) hx hb d_Pm_growTable_15 (by decide) (fun c_2 => ?_) (fun c_2 => ?_)
    · replace hw := hw.1 c_2
      refine lv_aload_n hx hb d_Pm_growTable_20 rfl (lv_at hl 0 rfl) ?_
      refine va_get (D := G.1) (ci := 1) (v := .ref t0) (C := R_Pm) (T := T_Pm) (N := 12) hx hb hts in_Pm hown hK hP 0 rfl rfl 3 (by decide) (hts _ fl_Pm_26) (fun _ h9 => h9) rfl d_Pm_growTable_21 ?_
      refine lv_iload_n hx hb d_Pm_growTable_24 rfl (lv_at hl 1 rfl) ?_
      obtain ⟨h_3, hw⟩ := hw
      have hPc := hP.sub (ws' := [(t0, .inr (0, [.int 200, .ref t1, .ref t2, .ref t3, .int tC, .int tU])), (t1, .inl (G.2.1 0, 6, .inl tS)), (t2, .inl (G.2.1 0, 6, .inl tL)), (t3, .inl (G.2.1 2, 6, .inl tD))]) [1, 2, 3, 4] rfl
      refine pu_i (va_runV (As := [.int k]) (rest := []) ⟨hx, hb, hml, hown, hts⟩ (c_Ly_lengthOf l G t0 t1 t2 t3 6 200 tC tU tS tL tD k h_3) (cwV 1 hts (gi_V ml_Pm_163 im_Ly_lengthOf se_Ly_lengthOf ini_Ly co_Ly_lengthOf) rfl rfl rfl (by decide +kernel) ⟨Nat.le_of_ble_eq_true rfl, Nat.le_of_ble_eq_true rfl⟩) ⟨cp_blind, va_recv hK hPc (ci := 0) (q0 := 0) rfl rfl, cp_pre hcx hS hPc⟩ rfl rfl hl.1 rfl (lv_room (Nat.le_of_ble_eq_true rfl)) d_Pm_growTable_25 ⟨Nat.le_of_ble_eq_true rfl, Nat.le_of_ble_eq_true rfl⟩) hS hP (fun H locs hP hS => ?_)
      refine lv_topi (fun x_4 ex_4 => ?_)
      replace hw := hw x_4 ex_4
      refine lv_istore (lv' := [(4, .int x_4), (0, .ref h), (1, .int k), (2, .int ng), (3, .int rf)]) hx hb d_Pm_growTable_28 hl (by decide) rfl (fun ls hl => ?_)
      refine lv_iload_n hx hb d_Pm_growTable_30 rfl (lv_at hl 3 rfl) ?_
      have hPc := hP.sub (ws' := []) [] rfl
      refine pu_l (va_runS (As := [.int ng]) (rest := []) ⟨hx, hb, hml, hown, hts⟩ (c_Pm_unsigned l G ng) (va_cwS 1 hts (gi_S ml_Pm_74 sm_Pm_unsigned ini_Pm co_Pm_unsigned) rfl rfl rfl (by decide +kernel) ⟨Nat.le_of_ble_eq_true rfl, Nat.le_of_ble_eq_true rfl⟩) ⟨cp_blind, cp_pre hcx hS hPc⟩ rfl rfl hl.1 rfl (lv_room (Nat.le_of_ble_eq_true rfl)) d_Pm_growTable_31 ⟨Nat.le_of_ble_eq_true rfl, Nat.le_of_ble_eq_true rfl⟩) hS hP (fun H locs hP hS => ?_)
      refine lv_topl (fun x_5 ex_5 => ?_)
      replace hw := hw x_5 ex_5
      refine lv_lstore (lv' := [(5, .long x_5), (4, .int x_4), (0, .ref h), (1, .int k), (2, .int ng), (3, .int rf)]) hx hb d_Pm_growTable_34 hl (by decide) rfl (fun ls hl => ?_)
      refine lv_iload hx hb d_Pm_growTable_36 (lv_at hl 1 rfl) ?_
      refine lv_i2l (v := x_4.toInt64) hx hb d_Pm_growTable_38 rfl ?_
      refine lv_lload hx hb d_Pm_growTable_39 (lv_at hl 0 rfl) ?_
      refine lv_ladd hx hb d_Pm_growTable_41 ?_
      refine lv_aload_n hx hb d_Pm_growTable_42 rfl (lv_at hl 2 rfl) ?_
      refine va_get (D := G.1) (ci := 1) (v := .ref atl) (C := R_Pm) (T := T_Pm) (N := 12) hx hb hts in_Pm hown hK hP 0 rfl rfl 4 (by decide) (hts _ fl_Pm_29) (fun _ h9 => h9) rfl d_Pm_growTable_43 ?_
      refine lv_iload_n hx hb d_Pm_growTable_46 rfl (lv_at hl 3 rfl) ?_
      obtain ⟨h_6, hw⟩ := hw
      refine va_iald hx hb hK hP 5 0 rfl rfl h_6 d_Pm_growTable_47 ?_
      have hPc := hP.sub (ws' := []) [] rfl
      refine pu_l (va_runS (As := [.int (ftl k.toNatClampNeg)]) (rest := [.long (x_4.toInt64 + x_5)]) ⟨hx, hb, hml, hown, hts⟩ (c_Pm_unsigned l G (ftl k.toNatClampNeg)) (va_cwS 1 hts (gi_S ml_Pm_74 sm_Pm_unsigned ini_Pm co_Pm_unsigned) rfl rfl rfl (by decide +kernel) ⟨Nat.le_of_ble_eq_true rfl, Nat.le_of_ble_eq_true rfl⟩) ⟨cp_blind, cp_pre hcx hS hPc⟩ rfl rfl hl.1 rfl (lv_room (Nat.le_of_ble_eq_true rfl)) d_Pm_growTable_48 ⟨Nat.le_of_ble_eq_true rfl, Nat.le_of_ble_eq_true rfl⟩) hS hP (fun H locs hP hS => ?_)
      refine W.lcmp hx hb d_Pm_growTable_51 ?_
      refine lv_if_gt (tgt := 69) hx hb d_Pm_growTable_52 (by decide) (fun c_7 => ?_) (fun c_7 => ?_)
      · replace hw := hw.1 c_7
        refine lv_iconst (v := (-1)) hx hb d_Pm_growTable_69 (by decide) ?_
        exact W.iret (v := (-1)) hx hb hr (fun t ht hW => ⟨⟨(-1), (tS, tL, tU, fte), rfl, hw, by have h9 := hP; rw [← ht] at h9; exact h9⟩, hS.F ht⟩) hS.2.2 d_Pm_growTable_70
      · replace hw := hw.2 c_7
        refine lv_lload hx hb d_Pm_growTable_55 (lv_at hl 0 rfl) ?_
        refine lv_aload_n hx hb d_Pm_growTable_57 rfl (lv_at hl 2 rfl) ?_
        refine va_get (D := G.1) (ci := 1) (v := .ref t0) (C := R_Pm) (T := T_Pm) (N := 12) hx hb hts in_Pm hown hK hP 0 rfl rfl 3 (by decide) (hts _ fl_Pm_26) (fun _ h9 => h9) rfl d_Pm_growTable_58 ?_
        have hPc := hP.sub (ws' := [(t0, .inr (0, [.int 200, .ref t1, .ref t2, .ref t3, .int tC, .int tU])), (t1, .inl (G.2.1 0, 6, .inl tS)), (t2, .inl (G.2.1 0, 6, .inl tL)), (t3, .inl (G.2.1 2, 6, .inl tD))]) [1, 2, 3, 4] rfl
        refine pu_i (va_runV (As := []) (rest := [.long x_5]) ⟨hx, hb, hml, hown, hts⟩ (c_Ly_left l G t0 t1 t2 t3 6 200 tC tU tS tL tD) (cwV 0 hts (gi_V ml_Pm_150 im_Ly_left se_Ly_left ini_Ly co_Ly_left) rfl rfl rfl (by decide +kernel) ⟨Nat.le_of_ble_eq_true rfl, Nat.le_of_ble_eq_true rfl⟩) ⟨cp_blind, va_recv hK hPc (ci := 0) (q0 := 0) rfl rfl, cp_pre hcx hS hPc⟩ rfl rfl hl.1 rfl (lv_room (Nat.le_of_ble_eq_true rfl)) d_Pm_growTable_61 ⟨Nat.le_of_ble_eq_true rfl, Nat.le_of_ble_eq_true rfl⟩) hS hP (fun H locs hP hS => ?_)
        refine lv_i2l (v := (200 - tU).toInt64) hx hb d_Pm_growTable_64 rfl ?_
        refine W.lcmp hx hb d_Pm_growTable_65 ?_
        refine lv_if_le (tgt := 71) hx hb d_Pm_growTable_66 (by decide) (fun c_8 => ?_) (fun c_8 => ?_)
        · replace hw := hw.1 c_8
          refine lv_aload_n hx hb d_Pm_growTable_71 rfl (lv_at hl 2 rfl) ?_
          refine va_get (D := G.1) (ci := 1) (v := .ref t0) (C := R_Pm) (T := T_Pm) (N := 12) hx hb hts in_Pm hown hK hP 0 rfl rfl 3 (by decide) (hts _ fl_Pm_26) (fun _ h9 => h9) rfl d_Pm_growTable_72 ?_
          refine lv_iload_n hx hb d_Pm_growTable_75 rfl (lv_at hl 3 rfl) ?_
          obtain ⟨h_9, hw⟩ := hw
          have hPc := hP.sub (ws' := [(t0, .inr (0, [.int 200, .ref t1, .ref t2, .ref t3, .int tC, .int tU])), (t1, .inl (G.2.1 0, 6, .inl tS)), (t2, .inl (G.2.1 0, 6, .inl tL)), (t3, .inl (G.2.1 2, 6, .inl tD))]) [1, 2, 3, 4] rfl
          refine pu_i (va_runV (As := [.int k]) (rest := []) ⟨hx, hb, hml, hown, hts⟩ (c_Ly_endOf l G t0 t1 t2 t3 6 200 tC tU tS tL tD k h_9) (cwV 1 hts (gi_V ml_Pm_78 im_Ly_endOf se_Ly_endOf ini_Ly co_Ly_endOf) rfl rfl rfl (by decide +kernel) ⟨Nat.le_of_ble_eq_true rfl, Nat.le_of_ble_eq_true rfl⟩) ⟨cp_blind, va_recv hK hPc (ci := 0) (q0 := 0) rfl rfl, cp_pre hcx hS hPc⟩ rfl rfl hl.1 rfl (lv_room (Nat.le_of_ble_eq_true rfl)) d_Pm_growTable_76 ⟨Nat.le_of_ble_eq_true rfl, Nat.le_of_ble_eq_true rfl⟩) hS hP (fun H locs hP hS => ?_)
          refine lv_topi (fun x_10 ex_10 => ?_)
          replace hw := hw x_10 ex_10
          refine lv_istore (lv' := [(7, .int x_10), (5, .long x_5), (4, .int x_4), (0, .ref h), (1, .int k), (2, .int ng), (3, .int rf)]) hx hb d_Pm_growTable_79 hl (by decide) rfl (fun ls hl => ?_)
          refine lv_aload_n hx hb d_Pm_growTable_81 rfl (lv_at hl 3 rfl) ?_
          refine va_get (D := G.1) (ci := 1) (v := .ref ate) (C := R_Pm) (T := T_Pm) (N := 12) hx hb hts in_Pm hown hK hP 0 rfl rfl 6 (by decide) (hts _ fl_Pm_35) (fun _ h9 => h9) rfl d_Pm_growTable_82 ?_
          refine lv_iload hx hb d_Pm_growTable_85 (lv_at hl 0 rfl) ?_
          refine lv_aload_n hx hb d_Pm_growTable_87 rfl (lv_at hl 3 rfl) ?_
          refine va_get (D := G.1) (ci := 1) (v := .ref ate) (C := R_Pm) (T := T_Pm) (N := 12) hx hb hts in_Pm hown hK hP 0 rfl rfl 6 (by decide) (hts _ fl_Pm_35) (fun _ h9 => h9) rfl d_Pm_growTable_88 ?_
          refine lv_iload hx hb d_Pm_growTable_91 (lv_at hl 0 rfl) ?_
          refine lv_iload_n hx hb d_Pm_growTable_93 rfl (lv_at hl 5 rfl) ?_
          refine lv_iadd hx hb d_Pm_growTable_94 ?_
          refine lv_aload_n hx hb d_Pm_growTable_95 rfl (lv_at hl 3 rfl) ?_
          refine va_get (D := G.1) (ci := 1) (v := .ref t0) (C := R_Pm) (T := T_Pm) (N := 12) hx hb hts in_Pm hown hK hP 0 rfl rfl 3 (by decide) (hts _ fl_Pm_26) (fun _ h9 => h9) rfl d_Pm_growTable_96 ?_
          have hPc := hP.sub (ws' := [(t0, .inr (0, [.int 200, .ref t1, .ref t2, .ref t3, .int tC, .int tU])), (t1, .inl (G.2.1 0, 6, .inl tS)), (t2, .inl (G.2.1 0, 6, .inl tL)), (t3, .inl (G.2.1 2, 6, .inl tD))]) [1, 2, 3, 4] rfl
          refine pu_i (va_runV (As := []) (rest := [.int (x_10 + ng), .ref ate, .int x_10, .ref ate]) ⟨hx, hb, hml, hown, hts⟩ (c_Ly_used l G t0 t1 t2 t3 6 200 tC tU tS tL tD) (cwV 0 hts (gi_V ml_Pm_81 im_Ly_used se_Ly_used ini_Ly co_Ly_used) rfl rfl rfl (by decide +kernel) ⟨Nat.le_of_ble_eq_true rfl, Nat.le_of_ble_eq_true rfl⟩) ⟨cp_blind, va_recv hK hPc (ci := 0) (q0 := 0) rfl rfl, cp_pre hcx hS hPc⟩ rfl rfl hl.1 rfl (lv_room (Nat.le_of_ble_eq_true rfl)) d_Pm_growTable_99 ⟨Nat.le_of_ble_eq_true rfl, Nat.le_of_ble_eq_true rfl⟩) hS hP (fun H locs hP hS => ?_)
          refine lv_iload hx hb d_Pm_growTable_102 (lv_at hl 0 rfl) ?_
          refine lv_isub hx hb d_Pm_growTable_104 ?_
          obtain ⟨h_11, h_12, h_13, h_14, h_15, h_16, hw⟩ := hw
          obtain ⟨a_17, ea_17⟩ : ∃ z, z = va_cpy fte fte x_10.toNatClampNeg ((x_10 + ng).toNatClampNeg) ((tU - x_10).toNatClampNeg) := ⟨_, rfl⟩
          replace hw := hw a_17 ea_17
          refine va_copyi (ty := .int) hx hb (hml.trans hl.1.symm) hown (hts _ ml_Pm_84) (hts _ nt_arraycopy) (hts _ sm_arraycopy) (hts _ ini_System) hK hP hD hS 6 6 0 0 rfl rfl rfl rfl rfl h_11 h_12 h_13 h_14 h_15 h_16 (Nat.le_of_ble_eq_true rfl) (Nat.le_of_ble_eq_true rfl) d_Pm_growTable_105 (fun H locs hP hD hS => ?_)
          rw [← ea_17] at hP hD
          have hP : va_P G.1 vwC [(h, .inr (1, [.ref m0, .ref aml, .ref amb, .ref t0, .ref atl, .ref att, .ref ate, .ref b0, .ref asb, .ref r0, .ref asr, .int trp])), (t0, .inr (0, [.int 200, .ref t1, .ref t2, .ref t3, .int tC, .int tU])), (t1, .inl (G.2.1 0, 6, .inl tS)), (t2, .inl (G.2.1 0, 6, .inl tL)), (t3, .inl (G.2.1 2, 6, .inl tD)), (atl, .inl (G.2.1 0, 6, .inl ftl)), (ate, .inl (G.2.1 0, 200, .inl a_17))] H := hP
          have hD : va_D A [(h, .inr (1, [.ref m0, .ref aml, .ref amb, .ref t0, .ref atl, .ref att, .ref ate, .ref b0, .ref asb, .ref r0, .ref asr, .int trp])), (t0, .inr (0, [.int 200, .ref t1, .ref t2, .ref t3, .int tC, .int tU])), (t1, .inl (G.2.1 0, 6, .inl tS)), (t2, .inl (G.2.1 0, 6, .inl tL)), (t3, .inl (G.2.1 2, 6, .inl tD)), (atl, .inl (G.2.1 0, 6, .inl ftl)), (ate, .inl (G.2.1 0, 200, .inl a_17))] := hD
          refine lv_aload_n hx hb d_Pm_growTable_108 rfl (lv_at hl 3 rfl) ?_
          refine va_get (D := G.1) (ci := 1) (v := .ref ate) (C := R_Pm) (T := T_Pm) (N := 12) hx hb hts in_Pm hown hK hP 0 rfl rfl 6 (by decide) (hts _ fl_Pm_35) (fun _ h9 => h9) rfl d_Pm_growTable_109 ?_
          refine lv_iload hx hb d_Pm_growTable_112 (lv_at hl 0 rfl) ?_
          refine lv_iload hx hb d_Pm_growTable_114 (lv_at hl 0 rfl) ?_
          refine lv_iload_n hx hb d_Pm_growTable_116 rfl (lv_at hl 5 rfl) ?_
          refine lv_iadd hx hb d_Pm_growTable_117 ?_
          refine lv_iload_n hx hb d_Pm_growTable_118 rfl (lv_at hl 6 rfl) ?_
          obtain ⟨h_18, hw⟩ := hw
          obtain ⟨h_19, hw⟩ := hw
          obtain ⟨h_20, hw⟩ := hw
          obtain ⟨h_21, hw⟩ := hw
          have hPc := hP.sub (ws' := [(ate, .inl (G.2.1 0, 200, .inl a_17))]) [6] rfl
          have hDc := hD.sub (ws' := [(ate, .inl (G.2.1 0, 200, .inl a_17))]) [6] (by decide) rfl
          have hFc := va_free (wc := [(ate, .inl (G.2.1 0, 200, .inl a_17))]) hD hS hA [6] rfl
          refine ip_v (va_runS (As := [.ref ate, .int x_10, .int (x_10 + ng), .int rf]) (rest := []) ⟨hx, hb, hml, hown, hts⟩ (c_Ar_fillI l G ate 200 a_17 x_10 (x_10 + ng) rf _ h_18 h_19 h_20 h_21) (va_cwS 4 hts (gi_S ml_Pm_153 sm_Ar_fillI ini_Ar co_Ar_fillI) rfl rfl rfl (by decide +kernel) ⟨Nat.le_of_ble_eq_true rfl, Nat.le_of_ble_eq_true rfl⟩) ⟨cm_blind, cm_pre hcx hS hPc hDc hFc⟩ rfl rfl hl.1 rfl (lv_room (Nat.le_of_ble_eq_true rfl)) d_Pm_growTable_119 ⟨Nat.le_of_ble_eq_true rfl, Nat.le_of_ble_eq_true rfl⟩) hS hP hD hA [6] rfl (fun _ => rfl) (fun u9 H locs hp hP hD hS => ?_)
          replace hp := hp.symm; subst hp
          obtain ⟨u_22, eu_22⟩ : ∃ z : Nat → Int32, z = ar_fill a_17 x_10.toNatClampNeg (x_10 + ng).toNatClampNeg rf := ⟨_, rfl⟩
          replace hw := hw u_22 eu_22
          have hP : va_P G.1 vwC [(h, .inr (1, [.ref m0, .ref aml, .ref amb, .ref t0, .ref atl, .ref att, .ref ate, .ref b0, .ref asb, .ref r0, .ref asr, .int trp])), (t0, .inr (0, [.int 200, .ref t1, .ref t2, .ref t3, .int tC, .int tU])), (t1, .inl (G.2.1 0, 6, .inl tS)), (t2, .inl (G.2.1 0, 6, .inl tL)), (t3, .inl (G.2.1 2, 6, .inl tD)), (atl, .inl (G.2.1 0, 6, .inl ftl)), (ate, .inl (G.2.1 0, 200, .inl (ar_fill a_17 x_10.toNatClampNeg (x_10 + ng).toNatClampNeg rf)))] H := hP
          have hD : va_D A [(h, .inr (1, [.ref m0, .ref aml, .ref amb, .ref t0, .ref atl, .ref att, .ref ate, .ref b0, .ref asb, .ref r0, .ref asr, .int trp])), (t0, .inr (0, [.int 200, .ref t1, .ref t2, .ref t3, .int tC, .int tU])), (t1, .inl (G.2.1 0, 6, .inl tS)), (t2, .inl (G.2.1 0, 6, .inl tL)), (t3, .inl (G.2.1 2, 6, .inl tD)), (atl, .inl (G.2.1 0, 6, .inl ftl)), (ate, .inl (G.2.1 0, 200, .inl (ar_fill a_17 x_10.toNatClampNeg (x_10 + ng).toNatClampNeg rf)))] := hD
          have hP : va_P G.1 vwC [(h, .inr (1, [.ref m0, .ref aml, .ref amb, .ref t0, .ref atl, .ref att, .ref ate, .ref b0, .ref asb, .ref r0, .ref asr, .int trp])), (t0, .inr (0, [.int 200, .ref t1, .ref t2, .ref t3, .int tC, .int tU])), (t1, .inl (G.2.1 0, 6, .inl tS)), (t2, .inl (G.2.1 0, 6, .inl tL)), (t3, .inl (G.2.1 2, 6, .inl tD)), (atl, .inl (G.2.1 0, 6, .inl ftl)), (ate, .inl (G.2.1 0, 200, .inl u_22))] H := by rw [eu_22]; exact hP
          have hD : va_D A [(h, .inr (1, [.ref m0, .ref aml, .ref amb, .ref t0, .ref atl, .ref att, .ref ate, .ref b0, .ref asb, .ref r0, .ref asr, .int trp])), (t0, .inr (0, [.int 200, .ref t1, .ref t2, .ref t3, .int tC, .int tU])), (t1, .inl (G.2.1 0, 6, .inl tS)), (t2, .inl (G.2.1 0, 6, .inl tL)), (t3, .inl (G.2.1 2, 6, .inl tD)), (atl, .inl (G.2.1 0, 6, .inl ftl)), (ate, .inl (G.2.1 0, 200, .inl u_22))] := by rw [eu_22]; exact hD
          refine lv_aload_n hx hb d_Pm_growTable_122 rfl (lv_at hl 3 rfl) ?_
          refine va_get (D := G.1) (ci := 1) (v := .ref t0) (C := R_Pm) (T := T_Pm) (N := 12) hx hb hts in_Pm hown hK hP 0 rfl rfl 3 (by decide) (hts _ fl_Pm_26) (fun _ h9 => h9) rfl d_Pm_growTable_123 ?_
          refine lv_iload_n hx hb d_Pm_growTable_126 rfl (lv_at hl 4 rfl) ?_
          refine lv_iload_n hx hb d_Pm_growTable_127 rfl (lv_at hl 5 rfl) ?_
          obtain ⟨h_23, hw⟩ := hw
          obtain ⟨h_24, hw⟩ := hw
          obtain ⟨h_25, hw⟩ := hw
          have hPc := hP.sub (ws' := [(t0, .inr (0, [.int 200, .ref t1, .ref t2, .ref t3, .int tC, .int tU])), (t1, .inl (G.2.1 0, 6, .inl tS)), (t2, .inl (G.2.1 0, 6, .inl tL)), (t3, .inl (G.2.1 2, 6, .inl tD))]) [1, 2, 3, 4] rfl
          have hDc := hD.sub (ws' := [(t0, .inr (0, [.int 200, .ref t1, .ref t2, .ref t3, .int tC, .int tU])), (t1, .inl (G.2.1 0, 6, .inl tS)), (t2, .inl (G.2.1 0, 6, .inl tL)), (t3, .inl (G.2.1 2, 6, .inl tD))]) [1, 2, 3, 4] (by decide) rfl
          have hFc := va_free (wc := [(t0, .inr (0, [.int 200, .ref t1, .ref t2, .ref t3, .int tC, .int tU])), (t1, .inl (G.2.1 0, 6, .inl tS)), (t2, .inl (G.2.1 0, 6, .inl tL)), (t3, .inl (G.2.1 2, 6, .inl tD))]) hD hS hA [1, 2, 3, 4] rfl
          refine ip_v (va_runV (As := [.int k, .int ng]) (rest := []) ⟨hx, hb, hml, hown, hts⟩ (c_Ly_widen l G t0 t1 t2 t3 6 200 tC tU tS tL tD k ng _ h_23 h_24 h_25) (cwV 2 hts (gi_V ml_Pm_96 im_Ly_widen se_Ly_widen ini_Ly co_Ly_widen) rfl rfl rfl (by decide +kernel) ⟨Nat.le_of_ble_eq_true rfl, Nat.le_of_ble_eq_true rfl⟩) ⟨cm_blind, va_recv hK hPc (ci := 0) (q0 := 0) rfl rfl, cm_pre hcx hS hPc hDc hFc⟩ rfl rfl hl.1 rfl (lv_room (Nat.le_of_ble_eq_true rfl)) d_Pm_growTable_128 ⟨Nat.le_of_ble_eq_true rfl, Nat.le_of_ble_eq_true rfl⟩) hS hP hD hA [1, 2, 3, 4] rfl (fun _ => rfl) (fun u9 H locs hp hP hD hS => ?_)
          replace hp := hp.symm; subst hp
          obtain ⟨u_26, eu_26⟩ : ∃ z : Nat → Int32, z = ly_shift tS k.toNatClampNeg tC.toNatClampNeg ng := ⟨_, rfl⟩
          replace hw := hw u_26 eu_26
          obtain ⟨u_27, eu_27⟩ : ∃ z : Nat → Int32, z = upd tL k.toNatClampNeg (tL k.toNatClampNeg + ng) := ⟨_, rfl⟩
          replace hw := hw u_27 eu_27
          obtain ⟨u_28, eu_28⟩ : ∃ z : Int32, z = tU + ng := ⟨_, rfl⟩
          replace hw := hw u_28 eu_28
          have hP : va_P G.1 vwC [(h, .inr (1, [.ref m0, .ref aml, .ref amb, .ref t0, .ref atl, .ref att, .ref ate, .ref b0, .ref asb, .ref r0, .ref asr, .int trp])), (t0, .inr (0, [.int 200, .ref t1, .ref t2, .ref t3, .int tC, .int (tU + ng)])), (t1, .inl (G.2.1 0, 6, .inl (ly_shift tS k.toNatClampNeg tC.toNatClampNeg ng))), (t2, .inl (G.2.1 0, 6, .inl (upd tL k.toNatClampNeg (tL k.toNatClampNeg + ng)))), (t3, .inl (G.2.1 2, 6, .inl tD)), (atl, .inl (G.2.1 0, 6, .inl ftl)), (ate, .inl (G.2.1 0, 200, .inl u_22))] H := hP
          have hD : va_D A [(h, .inr (1, [.ref m0, .ref aml, .ref amb, .ref t0, .ref atl, .ref att, .ref ate, .ref b0, .ref asb, .ref r0, .ref asr, .int trp])), (t0, .inr (0, [.int 200, .ref t1, .ref t2, .ref t3, .int tC, .int (tU + ng)])), (t1, .inl (G.2.1 0, 6, .inl (ly_shift tS k.toNatClampNeg tC.toNatClampNeg ng))), (t2, .inl (G.2.1 0, 6, .inl (upd tL k.toNatClampNeg (tL k.toNatClampNeg + ng)))), (t3, .inl (G.2.1 2, 6, .inl tD)), (atl, .inl (G.2.1 0, 6, .inl ftl)), (ate, .inl (G.2.1 0, 200, .inl u_22))] := hD
          have hP : va_P G.1 vwC [(h, .inr (1, [.ref m0, .ref aml, .ref amb, .ref t0, .ref atl, .ref att, .ref ate, .ref b0, .ref asb, .ref r0, .ref asr, .int trp])), (t0, .inr (0, [.int 200, .ref t1, .ref t2, .ref t3, .int tC, .int u_28])), (t1, .inl (G.2.1 0, 6, .inl u_26)), (t2, .inl (G.2.1 0, 6, .inl u_27)), (t3, .inl (G.2.1 2, 6, .inl tD)), (atl, .inl (G.2.1 0, 6, .inl ftl)), (ate, .inl (G.2.1 0, 200, .inl u_22))] H := by rw [eu_26]; rw [eu_27]; rw [eu_28]; exact hP
          have hD : va_D A [(h, .inr (1, [.ref m0, .ref aml, .ref amb, .ref t0, .ref atl, .ref att, .ref ate, .ref b0, .ref asb, .ref r0, .ref asr, .int trp])), (t0, .inr (0, [.int 200, .ref t1, .ref t2, .ref t3, .int tC, .int u_28])), (t1, .inl (G.2.1 0, 6, .inl u_26)), (t2, .inl (G.2.1 0, 6, .inl u_27)), (t3, .inl (G.2.1 2, 6, .inl tD)), (atl, .inl (G.2.1 0, 6, .inl ftl)), (ate, .inl (G.2.1 0, 200, .inl u_22))] := by rw [eu_26]; rw [eu_27]; rw [eu_28]; exact hD
          refine lv_iload hx hb d_Pm_growTable_131 (lv_at hl 2 rfl) ?_
          exact W.iret (v := x_4) hx hb hr (fun t ht hW => ⟨⟨x_4, (u_26, u_27, u_28, u_22), rfl, hw, by have h9 := hP; rw [← ht] at h9; exact h9⟩, hS.F ht⟩) hS.2.2 d_Pm_growTable_133
        · replace hw := hw.2 c_8
          refine lv_iconst (v := (-1)) hx hb d_Pm_growTable_69 (by decide) ?_
          exact W.iret (v := (-1)) hx hb hr (fun t ht hW => ⟨⟨(-1), (tS, tL, tU, fte), rfl, hw, by have h9 := hP; rw [← ht] at h9; exact h9⟩, hS.F ht⟩) hS.2.2 d_Pm_growTable_70
    · replace hw := hw.2 c_2
      refine lv_iconst (v := (-1)) hx hb d_Pm_growTable_18 (by decide) ?_
      exact W.iret (v := (-1)) hx hb hr (fun t ht hW => ⟨⟨(-1), (tS, tL, tU, fte), rfl, hw, by have h9 := hP; rw [← ht] at h9; exact h9⟩, hS.F ht⟩) hS.2.2 d_Pm_growTable_19
def wp_Pm_element (post : Int32 → ((Nat → Int32) × (Nat → Int32) × Int32 × Int32 × (Nat → Int32)) → Prop) (trp : Int32) (rC : Int32) (rU : Int32) (rS : Nat → Int32) (rL : Nat → Int32) (rD : Nat → Int32) (fsr : Nat → Int32) (rf : Int32) (mo : Int32) : Prop := ((is_ref rf = 0 → (post (-1) (rS, rL, rC, rU, fsr))) ∧ (¬ is_ref rf = 0 → ((rC.toInt ≤ 24) ∧ (((¬ ly_can rC rU 200 1 mo 24 rD = 0 → ((vp_in rU 200) ∧ ∀ a_5 : Nat → Int32, a_5 = upd fsr rU.toNatClampNeg rf → ((rC.toInt ≤ 24) ∧ ((24 < 2147483648) ∧ ((mo = 0 → vp_in rC 24 ∧ ly_full rC 24 = 0) ∧ ((¬ mo = 0 → ¬ rC ≤ 0) ∧ (∀ u_10 : Nat → Int32, u_10 = (if mo = 0 then upd rS rC.toNatClampNeg rU else rS) → (∀ u_11 : Nat → Int32, u_11 = (if mo = 0 then upd rL rC.toNatClampNeg 1 else upd rL (rC - 1).toNatClampNeg (rL (rC - 1).toNatClampNeg + 1)) → (∀ u_12 : Int32, u_12 = (if mo = 0 then rC + 1 else rC) → (∀ u_13 : Int32, u_13 = rU + 1 → (post (if mo = 0 then rC else rC - 1) (u_10, u_11, u_12, u_13, a_5)))))))))))) ∧ (ly_can rC rU 200 1 mo 24 rD = 0 → (post (-1) (rS, rL, rC, rU, fsr))))))))
set_option maxHeartbeats 4000000 in
set_option maxRecDepth 100000 in
theorem t_Pm_element (l : Launch) (G : cxT) (h : Nat) (m0 : Nat) (aml : Nat) (amb : Nat) (t0 : Nat) (atl : Nat) (att : Nat) (ate : Nat) (b0 : Nat) (asb : Nat) (r0 : Nat) (asr : Nat) (r1 : Nat) (r2 : Nat) (r3 : Nat) (trp : Int32) (rC : Int32) (rU : Int32) (rS : Nat → Int32) (rL : Nat → Int32) (rD : Nat → Int32) (fsr : Nat → Int32) (rf : Int32) (mo : Int32) (sz : Nat) (post : Int32 → ((Nat → Int32) × (Nat → Int32) × Int32 × Int32 × (Nat → Int32)) → Prop) (hw : wp_Pm_element post trp rC rU rS rL rD fsr rf mo) : Met l y_Pm_element [.code y_Pm_element b_Pm_element 3 (some .int)] ({ frames := 4, cells := 0, slots := 0, locals := 140 } : Room) (cm G [.ref h, .int rf, .int mo] [(h, .inr (1, [.ref m0, .ref aml, .ref amb, .ref t0, .ref atl, .ref att, .ref ate, .ref b0, .ref asb, .ref r0, .ref asr, .int trp])), (r0, .inr (0, [.int 200, .ref r1, .ref r2, .ref r3, .int rC, .int rU])), (r1, .inl (G.2.1 0, 24, .inl rS)), (r2, .inl (G.2.1 0, 24, .inl rL)), (r3, .inl (G.2.1 2, 24, .inl rD)), (asr, .inl (G.2.1 0, 200, .inl fsr))] sz) (va_Qi post (fun u t => va_P G.1 vwC [(h, .inr (1, [.ref m0, .ref aml, .ref amb, .ref t0, .ref atl, .ref att, .ref ate, .ref b0, .ref asb, .ref r0, .ref asr, .int trp])), (r0, .inr (0, [.int 200, .ref r1, .ref r2, .ref r3, .int u.2.2.1, .int u.2.2.2.1])), (r1, .inl (G.2.1 0, 24, .inl u.1)), (r2, .inl (G.2.1 0, 24, .inl u.2.1)), (r3, .inl (G.2.1 2, 24, .inl rD)), (asr, .inl (G.2.1 0, 200, .inl u.2.2.2.2))] t.heap) (va_A [(h, .inr (1, [.ref m0, .ref aml, .ref amb, .ref t0, .ref atl, .ref att, .ref ate, .ref b0, .ref asb, .ref r0, .ref asr, .int trp])), (r0, .inr (0, [.int 200, .ref r1, .ref r2, .ref r3, .int rC, .int rU])), (r1, .inl (G.2.1 0, 24, .inl rS)), (r2, .inl (G.2.1 0, 24, .inl rL)), (r3, .inl (G.2.1 2, 24, .inl rD)), (asr, .inl (G.2.1 0, 200, .inl fsr))] sz)) 0 0 (va_A [(h, .inr (1, [.ref m0, .ref aml, .ref amb, .ref t0, .ref atl, .ref att, .ref ate, .ref b0, .ref asb, .ref r0, .ref asr, .int trp])), (r0, .inr (0, [.int 200, .ref r1, .ref r2, .ref r3, .int rC, .int rU])), (r1, .inl (G.2.1 0, 24, .inl rS)), (r2, .inl (G.2.1 0, 24, .inl rL)), (r3, .inl (G.2.1 2, 24, .inl rD)), (asr, .inl (G.2.1 0, 200, .inl fsr))] sz) := by
  refine Met.ofW (cc := b_Pm_element) (maxL := 3) (ret := (some .int)) (by decide +kernel) rfl ?_
  intro p e s m args below meth c s₁ B hml hv
  obtain ⟨rfl, hsz, hcx, hP, hD0⟩ := hv
  have hx := B.exec
  have hb := B.bytes
  have hr := B.returns
  have hlocks := B.notSynchronized
  have hown : s.vm.findClass R_Pm = some m.cls := findClass_of_methodNamed B.named
  subst hsz
  have hD := hD0.self (sz := s.heap.size)
  generalize hAe : va_A [(h, .inr (1, [.ref m0, .ref aml, .ref amb, .ref t0, .ref atl, .ref att, .ref ate, .ref b0, .ref asb, .ref r0, .ref asr, .int trp])), (r0, .inr (0, [.int 200, .ref r1, .ref r2, .ref r3, .int rC, .int rU])), (r1, .inl (G.2.1 0, 24, .inl rS)), (r2, .inl (G.2.1 0, 24, .inl rL)), (r3, .inl (G.2.1 2, 24, .inl rD)), (asr, .inl (G.2.1 0, 200, .inl fsr))] s.heap.size = A at hD hcx ⊢
  have hA : ∀ q : Nat, s.heap.size ≤ q → A q := fun q h => by rw [← hAe]; exact Or.inr h
  have hS : va_S A s.heap s.heap [] := va_S.rf
  have hts := hcx.now.1 [.ref h, .int rf, .int mo].toArray
  have hK := hcx.now.2.1
  have hl := lv_entry ([.ref h, .int rf, .int mo]) (n := 3) (Nat.le_of_ble_eq_true rfl)
  rw [lg_entry_eq]
  generalize (lg_sl ([.ref h, .int rf, .int mo]) ++ List.replicate (3 - (lg_sl ([.ref h, .int rf, .int mo])).length) Slot.unset).toArray = ls at hl ⊢
  have hl : lv_has ls 3 [(0, .ref h), (1, .int rf), (2, .int mo)] := hl
  unfold wp_Pm_element at hw
  refine lv_iload_n hx hb d_Pm_element_0 rfl (lv_at hl 1 rfl) ?_
  have hPc := hP.sub (ws' := []) [] rfl
  refine pu_i (va_runS (As := [.int rf]) (rest := []) ⟨hx, hb, hml, hown, hts⟩ (c_Pm_isReference l G rf) (va_cwS 1 hts (gi_S ml_Pm_158 sm_Pm_isReference ini_Pm co_Pm_isReference) rfl rfl rfl (by decide +kernel) ⟨Nat.le_of_ble_eq_true rfl, Nat.le_of_ble_eq_true rfl⟩) ⟨cp_blind, cp_pre hcx hS hPc⟩ rfl rfl hl.1 rfl (lv_room (Nat.le_of_ble_eq_true rfl)) d_Pm_element_1 ⟨Nat.le_of_ble_eq_true rfl, Nat.le_of_ble_eq_true rfl⟩) hS hP (fun H locs hP hS => ?_)
  refine lv_if_eq (tgt := 19) hx hb d_Pm_element_4 (by decide) (fun c_1 => ?_) (fun c_1 => ?_)
  · replace hw := hw.1 c_1
    refine lv_iconst (v := (-1)) hx hb d_Pm_element_19 (by decide) ?_
    exact W.iret (v := (-1)) hx hb hr (fun t ht hW => ⟨⟨(-1), (rS, rL, rC, rU, fsr), rfl, hw, by have h9 := hP; rw [← ht] at h9; exact h9⟩, hS.F ht⟩) hS.2.2 d_Pm_element_20
  · replace hw := hw.2 c_1
    refine lv_aload_n hx hb d_Pm_element_7 rfl (lv_at hl 0 rfl) ?_
    refine va_get (D := G.1) (ci := 1) (v := .ref r0) (C := R_Pm) (T := T_Pm) (N := 12) hx hb hts in_Pm hown hK hP 0 rfl rfl 9 (by decide) (hts _ fl_Pm_44) (fun _ h9 => h9) rfl d_Pm_element_8 ?_
    refine lv_iconst (v := 1) hx hb d_Pm_element_11 (by decide) ?_
    refine lv_iload_n hx hb d_Pm_element_12 rfl (lv_at hl 2 rfl) ?_
    obtain ⟨h_2, hw⟩ := hw
    have hPc := hP.sub (ws' := [(r0, .inr (0, [.int 200, .ref r1, .ref r2, .ref r3, .int rC, .int rU])), (r1, .inl (G.2.1 0, 24, .inl rS)), (r2, .inl (G.2.1 0, 24, .inl rL)), (r3, .inl (G.2.1 2, 24, .inl rD))]) [1, 2, 3, 4] rfl
    refine pu_i (va_runV (As := [.int 1, .int mo]) (rest := []) ⟨hx, hb, hml, hown, hts⟩ (c_Ly_canTake l G r0 r1 r2 r3 24 200 rC rU rS rL rD 1 mo h_2) (cwV 2 hts (gi_V ml_Pm_136 im_Ly_canTake se_Ly_canTake ini_Ly co_Ly_canTake) rfl rfl rfl (by decide +kernel) ⟨Nat.le_of_ble_eq_true rfl, Nat.le_of_ble_eq_true rfl⟩) ⟨cp_blind, va_recv hK hPc (ci := 0) (q0 := 0) rfl rfl, cp_pre hcx hS hPc⟩ rfl rfl hl.1 rfl (lv_room (Nat.le_of_ble_eq_true rfl)) d_Pm_element_13 ⟨Nat.le_of_ble_eq_true rfl, Nat.le_of_ble_eq_true rfl⟩) hS hP (fun H locs hP hS => ?_)
    refine lv_if_ne (tgt := 21) hx hb d_Pm_element_16 (by decide) (fun c_3 => ?_) (fun c_3 => ?_)
    · replace hw := hw.1 c_3
      refine lv_aload_n hx hb d_Pm_element_21 rfl (lv_at hl 0 rfl) ?_
      refine va_get (D := G.1) (ci := 1) (v := .ref asr) (C := R_Pm) (T := T_Pm) (N := 12) hx hb hts in_Pm hown hK hP 0 rfl rfl 10 (by decide) (hts _ fl_Pm_47) (fun _ h9 => h9) rfl d_Pm_element_22 ?_
      refine lv_aload_n hx hb d_Pm_element_25 rfl (lv_at hl 0 rfl) ?_
      refine va_get (D := G.1) (ci := 1) (v := .ref r0) (C := R_Pm) (T := T_Pm) (N := 12) hx hb hts in_Pm hown hK hP 0 rfl rfl 9 (by decide) (hts _ fl_Pm_44) (fun _ h9 => h9) rfl d_Pm_element_26 ?_
      have hPc := hP.sub (ws' := [(r0, .inr (0, [.int 200, .ref r1, .ref r2, .ref r3, .int rC, .int rU])), (r1, .inl (G.2.1 0, 24, .inl rS)), (r2, .inl (G.2.1 0, 24, .inl rL)), (r3, .inl (G.2.1 2, 24, .inl rD))]) [1, 2, 3, 4] rfl
      refine pu_i (va_runV (As := []) (rest := [.ref asr]) ⟨hx, hb, hml, hown, hts⟩ (c_Ly_used l G r0 r1 r2 r3 24 200 rC rU rS rL rD) (cwV 0 hts (gi_V ml_Pm_81 im_Ly_used se_Ly_used ini_Ly co_Ly_used) rfl rfl rfl (by decide +kernel) ⟨Nat.le_of_ble_eq_true rfl, Nat.le_of_ble_eq_true rfl⟩) ⟨cp_blind, va_recv hK hPc (ci := 0) (q0 := 0) rfl rfl, cp_pre hcx hS hPc⟩ rfl rfl hl.1 rfl (lv_room (Nat.le_of_ble_eq_true rfl)) d_Pm_element_29 ⟨Nat.le_of_ble_eq_true rfl, Nat.le_of_ble_eq_true rfl⟩) hS hP (fun H locs hP hS => ?_)
      refine lv_iload_n hx hb d_Pm_element_32 rfl (lv_at hl 1 rfl) ?_
      obtain ⟨h_4, hw⟩ := hw
      obtain ⟨a_5, ea_5⟩ : ∃ z, z = upd fsr rU.toNatClampNeg rf := ⟨_, rfl⟩
      replace hw := hw a_5 ea_5
      refine va_iast hx hb hK hP hD hS 5 0 rfl rfl h_4 d_Pm_element_33 (fun H locs hP hD hS => ?_)
      rw [← ea_5] at hP hD
      have hP : va_P G.1 vwC [(h, .inr (1, [.ref m0, .ref aml, .ref amb, .ref t0, .ref atl, .ref att, .ref ate, .ref b0, .ref asb, .ref r0, .ref asr, .int trp])), (r0, .inr (0, [.int 200, .ref r1, .ref r2, .ref r3, .int rC, .int rU])), (r1, .inl (G.2.1 0, 24, .inl rS)), (r2, .inl (G.2.1 0, 24, .inl rL)), (r3, .inl (G.2.1 2, 24, .inl rD)), (asr, .inl (G.2.1 0, 200, .inl a_5))] H := hP
      have hD : va_D A [(h, .inr (1, [.ref m0, .ref aml, .ref amb, .ref t0, .ref atl, .ref att, .ref ate, .ref b0, .ref asb, .ref r0, .ref asr, .int trp])), (r0, .inr (0, [.int 200, .ref r1, .ref r2, .ref r3, .int rC, .int rU])), (r1, .inl (G.2.1 0, 24, .inl rS)), (r2, .inl (G.2.1 0, 24, .inl rL)), (r3, .inl (G.2.1 2, 24, .inl rD)), (asr, .inl (G.2.1 0, 200, .inl a_5))] := hD
      refine lv_aload_n hx hb d_Pm_element_34 rfl (lv_at hl 0 rfl) ?_
      refine va_get (D := G.1) (ci := 1) (v := .ref r0) (C := R_Pm) (T := T_Pm) (N := 12) hx hb hts in_Pm hown hK hP 0 rfl rfl 9 (by decide) (hts _ fl_Pm_44) (fun _ h9 => h9) rfl d_Pm_element_35 ?_
      refine lv_iconst (v := 1) hx hb d_Pm_element_38 (by decide) ?_
      refine lv_iload_n hx hb d_Pm_element_39 rfl (lv_at hl 2 rfl) ?_
      obtain ⟨h_6, hw⟩ := hw
      obtain ⟨h_7, hw⟩ := hw
      obtain ⟨h_8, hw⟩ := hw
      obtain ⟨h_9, hw⟩ := hw
      have hPc := hP.sub (ws' := [(r0, .inr (0, [.int 200, .ref r1, .ref r2, .ref r3, .int rC, .int rU])), (r1, .inl (G.2.1 0, 24, .inl rS)), (r2, .inl (G.2.1 0, 24, .inl rL)), (r3, .inl (G.2.1 2, 24, .inl rD))]) [1, 2, 3, 4] rfl
      have hDc := hD.sub (ws' := [(r0, .inr (0, [.int 200, .ref r1, .ref r2, .ref r3, .int rC, .int rU])), (r1, .inl (G.2.1 0, 24, .inl rS)), (r2, .inl (G.2.1 0, 24, .inl rL)), (r3, .inl (G.2.1 2, 24, .inl rD))]) [1, 2, 3, 4] (by decide) rfl
      have hFc := va_free (wc := [(r0, .inr (0, [.int 200, .ref r1, .ref r2, .ref r3, .int rC, .int rU])), (r1, .inl (G.2.1 0, 24, .inl rS)), (r2, .inl (G.2.1 0, 24, .inl rL)), (r3, .inl (G.2.1 2, 24, .inl rD))]) hD hS hA [1, 2, 3, 4] rfl
      refine ip_i (va_runV (As := [.int 1, .int mo]) (rest := []) ⟨hx, hb, hml, hown, hts⟩ (c_Ly_take l G r0 r1 r2 r3 24 200 rC rU rS rL rD 1 mo _ h_6 h_7 h_8 h_9) (cwV 2 hts (gi_V ml_Pm_140 im_Ly_take se_Ly_take ini_Ly co_Ly_take) rfl rfl rfl (by decide +kernel) ⟨Nat.le_of_ble_eq_true rfl, Nat.le_of_ble_eq_true rfl⟩) ⟨cm_blind, va_recv hK hPc (ci := 0) (q0 := 0) rfl rfl, cm_pre hcx hS hPc hDc hFc⟩ rfl rfl hl.1 rfl (lv_room (Nat.le_of_ble_eq_true rfl)) d_Pm_element_40 ⟨Nat.le_of_ble_eq_true rfl, Nat.le_of_ble_eq_true rfl⟩) hS hP hD hA [1, 2, 3, 4] rfl (fun _ => rfl) (fun r9 u9 H locs hp hP hD hS => ?_)
      obtain ⟨e91, e92⟩ := hp; replace e91 := e91.symm; replace e92 := e92.symm; subst e91; subst e92
      obtain ⟨u_10, eu_10⟩ : ∃ z : Nat → Int32, z = if mo = 0 then upd rS rC.toNatClampNeg rU else rS := ⟨_, rfl⟩
      replace hw := hw u_10 eu_10
      obtain ⟨u_11, eu_11⟩ : ∃ z : Nat → Int32, z = if mo = 0 then upd rL rC.toNatClampNeg 1 else upd rL (rC - 1).toNatClampNeg (rL (rC - 1).toNatClampNeg + 1) := ⟨_, rfl⟩
      replace hw := hw u_11 eu_11
      obtain ⟨u_12, eu_12⟩ : ∃ z : Int32, z = if mo = 0 then rC + 1 else rC := ⟨_, rfl⟩
      replace hw := hw u_12 eu_12
      obtain ⟨u_13, eu_13⟩ : ∃ z : Int32, z = rU + 1 := ⟨_, rfl⟩
      replace hw := hw u_13 eu_13
      have hP : va_P G.1 vwC [(h, .inr (1, [.ref m0, .ref aml, .ref amb, .ref t0, .ref atl, .ref att, .ref ate, .ref b0, .ref asb, .ref r0, .ref asr, .int trp])), (r0, .inr (0, [.int 200, .ref r1, .ref r2, .ref r3, .int (if mo = 0 then rC + 1 else rC), .int (rU + 1)])), (r1, .inl (G.2.1 0, 24, .inl (if mo = 0 then upd rS rC.toNatClampNeg rU else rS))), (r2, .inl (G.2.1 0, 24, .inl (if mo = 0 then upd rL rC.toNatClampNeg 1 else upd rL (rC - 1).toNatClampNeg (rL (rC - 1).toNatClampNeg + 1)))), (r3, .inl (G.2.1 2, 24, .inl rD)), (asr, .inl (G.2.1 0, 200, .inl a_5))] H := hP
      have hD : va_D A [(h, .inr (1, [.ref m0, .ref aml, .ref amb, .ref t0, .ref atl, .ref att, .ref ate, .ref b0, .ref asb, .ref r0, .ref asr, .int trp])), (r0, .inr (0, [.int 200, .ref r1, .ref r2, .ref r3, .int (if mo = 0 then rC + 1 else rC), .int (rU + 1)])), (r1, .inl (G.2.1 0, 24, .inl (if mo = 0 then upd rS rC.toNatClampNeg rU else rS))), (r2, .inl (G.2.1 0, 24, .inl (if mo = 0 then upd rL rC.toNatClampNeg 1 else upd rL (rC - 1).toNatClampNeg (rL (rC - 1).toNatClampNeg + 1)))), (r3, .inl (G.2.1 2, 24, .inl rD)), (asr, .inl (G.2.1 0, 200, .inl a_5))] := hD
      have hP : va_P G.1 vwC [(h, .inr (1, [.ref m0, .ref aml, .ref amb, .ref t0, .ref atl, .ref att, .ref ate, .ref b0, .ref asb, .ref r0, .ref asr, .int trp])), (r0, .inr (0, [.int 200, .ref r1, .ref r2, .ref r3, .int u_12, .int u_13])), (r1, .inl (G.2.1 0, 24, .inl u_10)), (r2, .inl (G.2.1 0, 24, .inl u_11)), (r3, .inl (G.2.1 2, 24, .inl rD)), (asr, .inl (G.2.1 0, 200, .inl a_5))] H := by rw [eu_10]; rw [eu_11]; rw [eu_12]; rw [eu_13]; exact hP
      have hD : va_D A [(h, .inr (1, [.ref m0, .ref aml, .ref amb, .ref t0, .ref atl, .ref att, .ref ate, .ref b0, .ref asb, .ref r0, .ref asr, .int trp])), (r0, .inr (0, [.int 200, .ref r1, .ref r2, .ref r3, .int u_12, .int u_13])), (r1, .inl (G.2.1 0, 24, .inl u_10)), (r2, .inl (G.2.1 0, 24, .inl u_11)), (r3, .inl (G.2.1 2, 24, .inl rD)), (asr, .inl (G.2.1 0, 200, .inl a_5))] := by rw [eu_10]; rw [eu_11]; rw [eu_12]; rw [eu_13]; exact hD
      exact W.iret (v := (if mo = 0 then rC else rC - 1)) hx hb hr (fun t ht hW => ⟨⟨(if mo = 0 then rC else rC - 1), (u_10, u_11, u_12, u_13, a_5), rfl, hw, by have h9 := hP; rw [← ht] at h9; exact h9⟩, hS.F ht⟩) hS.2.2 d_Pm_element_43
    · replace hw := hw.2 c_3
      refine lv_iconst (v := (-1)) hx hb d_Pm_element_19 (by decide) ?_
      exact W.iret (v := (-1)) hx hb hr (fun t ht hW => ⟨⟨(-1), (rS, rL, rC, rU, fsr), rfl, hw, by have h9 := hP; rw [← ht] at h9; exact h9⟩, hS.F ht⟩) hS.2.2 d_Pm_element_20
def wp_Pm_trap (post : Int32 → Prop) (trp : Int32) : Prop := post trp
set_option maxHeartbeats 4000000 in
set_option maxRecDepth 100000 in
theorem t_Pm_trap (l : Launch) (G : cxT) (h : Nat) (m0 : Nat) (aml : Nat) (amb : Nat) (t0 : Nat) (atl : Nat) (att : Nat) (ate : Nat) (b0 : Nat) (asb : Nat) (r0 : Nat) (asr : Nat) (trp : Int32) (post : Int32 → Prop) (hw : wp_Pm_trap post trp) : Met l y_Pm_trap [.code y_Pm_trap b_Pm_trap 1 (some .int)] ({ frames := 0, cells := 0, slots := 0, locals := 0 } : Room) (cp G [.ref h] [(h, .inr (1, [.ref m0, .ref aml, .ref amb, .ref t0, .ref atl, .ref att, .ref ate, .ref b0, .ref asb, .ref r0, .ref asr, .int trp]))]) (va_Qi (fun r (_ : Unit) => post r) (fun _ _ => True) (fun _ => False)) 0 0 (fun _ => False) := by
  refine Met.ofW (cc := b_Pm_trap) (maxL := 1) (ret := (some .int)) (by decide +kernel) rfl ?_
  intro p e s m args below meth c s₁ B hml hv
  obtain ⟨rfl, hcx, hP⟩ := hv
  have hx := B.exec
  have hb := B.bytes
  have hr := B.returns
  have hlocks := B.notSynchronized
  have hown : s.vm.findClass R_Pm = some m.cls := findClass_of_methodNamed B.named
  have hS : va_S (fun _ => False) s.heap s.heap [] := va_S.rf
  have hts := hcx.now.1 [.ref h].toArray
  have hK := hcx.now.2.1
  have hl := lv_entry ([.ref h]) (n := 1) (Nat.le_of_ble_eq_true rfl)
  rw [lg_entry_eq]
  generalize (lg_sl ([.ref h]) ++ List.replicate (1 - (lg_sl ([.ref h])).length) Slot.unset).toArray = ls at hl ⊢
  have hl : lv_has ls 1 [(0, .ref h)] := hl
  unfold wp_Pm_trap at hw
  refine lv_aload_n hx hb d_Pm_trap_0 rfl (lv_at hl 0 rfl) ?_
  refine va_get (D := G.1) (ci := 1) (v := .int trp) (C := R_Pm) (T := T_Pm) (N := 12) hx hb hts in_Pm hown hK hP 0 rfl rfl 11 (by decide) (hts _ fl_Pm_50) (fun _ h9 => h9) rfl d_Pm_trap_1 ?_
  exact W.iret (v := trp) hx hb hr (fun t ht hW => ⟨⟨trp, (), rfl, hw, trivial⟩, hS.F ht⟩) hS.2.2 d_Pm_trap_4
