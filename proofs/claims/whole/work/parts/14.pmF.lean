def wp_Pm_size (post : Int32 → Prop) (trp : Int32) (mC : Int32) (mU : Int32) (mS : Nat → Int32) (mL : Nat → Int32) (mD : Nat → Int32) (tC : Int32) (tU : Int32) (tS : Nat → Int32) (tL : Nat → Int32) (tD : Nat → Int32) (bC : Int32) (bU : Int32) (bS : Nat → Int32) (bL : Nat → Int32) (bD : Nat → Int32) (rC : Int32) (rU : Int32) (rS : Nat → Int32) (rL : Nat → Int32) (rD : Nat → Int32) (fml : Nat → Int32) (ftl : Nat → Int32) (ftt : Nat → Int32) (wh : Int32) (k : Int32) : Prop := ((wh = 0 → (((ly_has mC k = 0 → (post (-1))) ∧ (¬ ly_has mC k = 0 → ((mC.toInt ≤ 6) ∧ (post (ly_ln mC k mL / 256))))))) ∧ (¬ wh = 0 → (((wh = 1 → (((ly_has mC k = 0 → (post (-1))) ∧ (¬ ly_has mC k = 0 → ((vp_in k 6) ∧ (post (fml k.toNatClampNeg))))))) ∧ (¬ wh = 1 → (((wh = 2 → (((ly_has tC k = 0 → (post (-1))) ∧ (¬ ly_has tC k = 0 → ((tC.toInt ≤ 6) ∧ (post (ly_ln tC k tL))))))) ∧ (¬ wh = 2 → (((wh = 3 → (((ly_has tC k = 0 → (post (-1))) ∧ (¬ ly_has tC k = 0 → ((vp_in k 6) ∧ (post (ftl k.toNatClampNeg))))))) ∧ (¬ wh = 3 → (((wh = 4 → (((ly_has tC k = 0 → (post (-1))) ∧ (¬ ly_has tC k = 0 → ((vp_in k 6) ∧ (post (ftt k.toNatClampNeg))))))) ∧ (¬ wh = 4 → (((wh = 5 → (((ly_has bC k = 0 → (post (-1))) ∧ (¬ ly_has bC k = 0 → ((bC.toInt ≤ 24) ∧ (post (ly_ln bC k bL))))))) ∧ (¬ wh = 5 → (((wh = 6 → (((ly_has rC k = 0 → (post (-1))) ∧ (¬ ly_has rC k = 0 → ((rC.toInt ≤ 24) ∧ (post (ly_ln rC k rL))))))) ∧ (¬ wh = 6 → (((wh = 7 → (post ((12288 - mU) / 256))) ∧ (¬ wh = 7 → (((wh = 8 → (post (200 - tU))) ∧ (¬ wh = 8 → (((wh = 9 → (post mC)) ∧ (¬ wh = 9 → (((wh = 10 → (post tC)) ∧ (¬ wh = 10 → (((wh = 11 → (post bC)) ∧ (¬ wh = 11 → (((wh = 12 → (post rC)) ∧ (¬ wh = 12 → (post (-1))))))))))))))))))))))))))))))))))))))))
set_option maxHeartbeats 4000000 in
set_option maxRecDepth 100000 in
theorem t_Pm_size (l : Launch) (G : cxT) (h : Nat) (m0 : Nat) (aml : Nat) (amb : Nat) (t0 : Nat) (atl : Nat) (att : Nat) (ate : Nat) (b0 : Nat) (asb : Nat) (r0 : Nat) (asr : Nat) (m1 : Nat) (m2 : Nat) (m3 : Nat) (t1 : Nat) (t2 : Nat) (t3 : Nat) (b1 : Nat) (b2 : Nat) (b3 : Nat) (r1 : Nat) (r2 : Nat) (r3 : Nat) (trp : Int32) (mC : Int32) (mU : Int32) (mS : Nat → Int32) (mL : Nat → Int32) (mD : Nat → Int32) (tC : Int32) (tU : Int32) (tS : Nat → Int32) (tL : Nat → Int32) (tD : Nat → Int32) (bC : Int32) (bU : Int32) (bS : Nat → Int32) (bL : Nat → Int32) (bD : Nat → Int32) (rC : Int32) (rU : Int32) (rS : Nat → Int32) (rL : Nat → Int32) (rD : Nat → Int32) (fml : Nat → Int32) (ftl : Nat → Int32) (ftt : Nat → Int32) (wh : Int32) (k : Int32) (post : Int32 → Prop) (hw : wp_Pm_size post trp mC mU mS mL mD tC tU tS tL tD bC bU bS bL bD rC rU rS rL rD fml ftl ftt wh k) : Met l y_Pm_size [.code y_Pm_size b_Pm_size 3 (some .int)] ({ frames := 4, cells := 0, slots := 0, locals := 140 } : Room) (cp G [.ref h, .int wh, .int k] [(h, .inr (1, [.ref m0, .ref aml, .ref amb, .ref t0, .ref atl, .ref att, .ref ate, .ref b0, .ref asb, .ref r0, .ref asr, .int trp])), (m0, .inr (0, [.int 12288, .ref m1, .ref m2, .ref m3, .int mC, .int mU])), (m1, .inl (G.2.1 0, 6, .inl mS)), (m2, .inl (G.2.1 0, 6, .inl mL)), (m3, .inl (G.2.1 2, 6, .inl mD)), (t0, .inr (0, [.int 200, .ref t1, .ref t2, .ref t3, .int tC, .int tU])), (t1, .inl (G.2.1 0, 6, .inl tS)), (t2, .inl (G.2.1 0, 6, .inl tL)), (t3, .inl (G.2.1 2, 6, .inl tD)), (b0, .inr (0, [.int 600, .ref b1, .ref b2, .ref b3, .int bC, .int bU])), (b1, .inl (G.2.1 0, 24, .inl bS)), (b2, .inl (G.2.1 0, 24, .inl bL)), (b3, .inl (G.2.1 2, 24, .inl bD)), (r0, .inr (0, [.int 200, .ref r1, .ref r2, .ref r3, .int rC, .int rU])), (r1, .inl (G.2.1 0, 24, .inl rS)), (r2, .inl (G.2.1 0, 24, .inl rL)), (r3, .inl (G.2.1 2, 24, .inl rD)), (aml, .inl (G.2.1 0, 6, .inl fml)), (atl, .inl (G.2.1 0, 6, .inl ftl)), (att, .inl (G.2.1 0, 6, .inl ftt))]) (va_Qi (fun r (_ : Unit) => post r) (fun _ _ => True) (fun _ => False)) 0 0 (fun _ => False) := by
  refine Met.ofW (cc := b_Pm_size) (maxL := 3) (ret := (some .int)) (by decide +kernel) rfl ?_
  intro p e s m args below meth c s₁ B hml hv
  obtain ⟨rfl, hcx, hP⟩ := hv
  have hx := B.exec
  have hb := B.bytes
  have hr := B.returns
  have hlocks := B.notSynchronized
  have hown : s.vm.findClass R_Pm = some m.cls := findClass_of_methodNamed B.named
  have hS : va_S (fun _ => False) s.heap s.heap [] := va_S.rf
  have hts := hcx.now.1 [.ref h, .int wh, .int k].toArray
  have hK := hcx.now.2.1
  have hl := lv_entry ([.ref h, .int wh, .int k]) (n := 3) (Nat.le_of_ble_eq_true rfl)
  rw [lg_entry_eq]
  generalize (lg_sl ([.ref h, .int wh, .int k]) ++ List.replicate (3 - (lg_sl ([.ref h, .int wh, .int k])).length) Slot.unset).toArray = ls at hl ⊢
  have hl : lv_has ls 3 [(0, .ref h), (1, .int wh), (2, .int k)] := hl
  unfold wp_Pm_size at hw
  refine lv_iload_n hx hb d_Pm_size_0 rfl (lv_at hl 1 rfl) ?_
  by_cases c_1 : wh = 0
  · replace hw := hw.1 c_1
    refine lv_tableIn (tgt := 68) hx hb d_Pm_size_1 (by rw [c_1]; decide) (by rw [c_1]; decide) (by rw [c_1]; rfl) (by decide) ?_
    refine lv_aload_n hx hb d_Pm_size_68 rfl (lv_at hl 0 rfl) ?_
    refine va_get (D := G.1) (ci := 1) (v := .ref m0) (C := R_Pm) (T := T_Pm) (N := 12) hx hb hts in_Pm hown hK hP 0 rfl rfl 0 (by decide) (hts _ fl_Pm_14) (fun _ h9 => h9) rfl d_Pm_size_69 ?_
    refine lv_iload_n hx hb d_Pm_size_72 rfl (lv_at hl 2 rfl) ?_
    have hPc := hP.sub (ws' := [(m0, .inr (0, [.int 12288, .ref m1, .ref m2, .ref m3, .int mC, .int mU])), (m1, .inl (G.2.1 0, 6, .inl mS)), (m2, .inl (G.2.1 0, 6, .inl mL)), (m3, .inl (G.2.1 2, 6, .inl mD))]) [1, 2, 3, 4] rfl
    refine pu_i (va_runV (As := [.int k]) (rest := []) ⟨hx, hb, hml, hown, hts⟩ (c_Ly_has l G m0 m1 m2 m3 6 12288 mC mU mS mL mD k) (cwV 1 hts (gi_V ml_Pm_67 im_Ly_has se_Ly_has ini_Ly co_Ly_has) rfl rfl rfl (by decide +kernel) ⟨Nat.le_of_ble_eq_true rfl, Nat.le_of_ble_eq_true rfl⟩) ⟨cp_blind, va_recv hK hPc (ci := 0) (q0 := 0) rfl rfl, cp_pre hcx hS hPc⟩ rfl rfl hl.1 rfl (lv_room (Nat.le_of_ble_eq_true rfl)) d_Pm_size_73 ⟨Nat.le_of_ble_eq_true rfl, Nat.le_of_ble_eq_true rfl⟩) hS hP (fun H locs hP hS => ?_)
    refine lv_if_eq (tgt := 87) hx hb d_Pm_size_76 (by decide) (fun c_2 => ?_) (fun c_2 => ?_)
    · replace hw := hw.1 c_2
      refine lv_iconst (v := (-1)) hx hb d_Pm_size_87 (by decide) ?_
      exact W.iret (v := (-1)) hx hb hr (fun t ht hW => ⟨⟨(-1), (), rfl, hw, trivial⟩, hS.F ht⟩) hS.2.2 d_Pm_size_88
    · replace hw := hw.2 c_2
      refine lv_aload_n hx hb d_Pm_size_79 rfl (lv_at hl 0 rfl) ?_
      refine lv_iload_n hx hb d_Pm_size_80 rfl (lv_at hl 2 rfl) ?_
      obtain ⟨h_3, hw⟩ := hw
      have hPc := hP.sub (ws' := [(h, .inr (1, [.ref m0, .ref aml, .ref amb, .ref t0, .ref atl, .ref att, .ref ate, .ref b0, .ref asb, .ref r0, .ref asr, .int trp])), (m0, .inr (0, [.int 12288, .ref m1, .ref m2, .ref m3, .int mC, .int mU])), (m1, .inl (G.2.1 0, 6, .inl mS)), (m2, .inl (G.2.1 0, 6, .inl mL)), (m3, .inl (G.2.1 2, 6, .inl mD))]) [0, 1, 2, 3, 4] rfl
      refine pu_i (va_runV (As := [.int k]) (rest := []) ⟨hx, hb, hml, hown, hts⟩ (c_Pm_pagesOf l G h m0 aml amb t0 atl att ate b0 asb r0 asr m1 m2 m3 trp mC mU mS mL mD k h_3) (cwV 1 hts (gi_V ml_Pm_71 im_Pm_pagesOf se_Pm_pagesOf ini_Pm co_Pm_pagesOf) rfl rfl rfl (by decide +kernel) ⟨Nat.le_of_ble_eq_true rfl, Nat.le_of_ble_eq_true rfl⟩) ⟨cp_blind, va_recv hK hPc (ci := 1) (q0 := 0) rfl rfl, cp_pre hcx hS hPc⟩ rfl rfl hl.1 rfl (lv_room (Nat.le_of_ble_eq_true rfl)) d_Pm_size_81 ⟨Nat.le_of_ble_eq_true rfl, Nat.le_of_ble_eq_true rfl⟩) hS hP (fun H locs hP hS => ?_)
      refine lv_goto (tgt := 88) hx hb d_Pm_size_84 (by decide) ?_
      exact W.iret (v := ly_ln mC k mL / 256) hx hb hr (fun t ht hW => ⟨⟨ly_ln mC k mL / 256, (), rfl, hw, trivial⟩, hS.F ht⟩) hS.2.2 d_Pm_size_88
  · replace hw := hw.2 c_1
    by_cases c_4 : wh = 1
    · replace hw := hw.1 c_4
      refine lv_tableIn (tgt := 89) hx hb d_Pm_size_1 (by rw [c_4]; decide) (by rw [c_4]; decide) (by rw [c_4]; rfl) (by decide) ?_
      refine lv_aload_n hx hb d_Pm_size_89 rfl (lv_at hl 0 rfl) ?_
      refine va_get (D := G.1) (ci := 1) (v := .ref m0) (C := R_Pm) (T := T_Pm) (N := 12) hx hb hts in_Pm hown hK hP 0 rfl rfl 0 (by decide) (hts _ fl_Pm_14) (fun _ h9 => h9) rfl d_Pm_size_90 ?_
      refine lv_iload_n hx hb d_Pm_size_93 rfl (lv_at hl 2 rfl) ?_
      have hPc := hP.sub (ws' := [(m0, .inr (0, [.int 12288, .ref m1, .ref m2, .ref m3, .int mC, .int mU])), (m1, .inl (G.2.1 0, 6, .inl mS)), (m2, .inl (G.2.1 0, 6, .inl mL)), (m3, .inl (G.2.1 2, 6, .inl mD))]) [1, 2, 3, 4] rfl
      refine pu_i (va_runV (As := [.int k]) (rest := []) ⟨hx, hb, hml, hown, hts⟩ (c_Ly_has l G m0 m1 m2 m3 6 12288 mC mU mS mL mD k) (cwV 1 hts (gi_V ml_Pm_67 im_Ly_has se_Ly_has ini_Ly co_Ly_has) rfl rfl rfl (by decide +kernel) ⟨Nat.le_of_ble_eq_true rfl, Nat.le_of_ble_eq_true rfl⟩) ⟨cp_blind, va_recv hK hPc (ci := 0) (q0 := 0) rfl rfl, cp_pre hcx hS hPc⟩ rfl rfl hl.1 rfl (lv_room (Nat.le_of_ble_eq_true rfl)) d_Pm_size_94 ⟨Nat.le_of_ble_eq_true rfl, Nat.le_of_ble_eq_true rfl⟩) hS hP (fun H locs hP hS => ?_)
      refine lv_if_eq (tgt := 109) hx hb d_Pm_size_97 (by decide) (fun c_5 => ?_) (fun c_5 => ?_)
      · replace hw := hw.1 c_5
        refine lv_iconst (v := (-1)) hx hb d_Pm_size_109 (by decide) ?_
        exact W.iret (v := (-1)) hx hb hr (fun t ht hW => ⟨⟨(-1), (), rfl, hw, trivial⟩, hS.F ht⟩) hS.2.2 d_Pm_size_110
      · replace hw := hw.2 c_5
        refine lv_aload_n hx hb d_Pm_size_100 rfl (lv_at hl 0 rfl) ?_
        refine va_get (D := G.1) (ci := 1) (v := .ref aml) (C := R_Pm) (T := T_Pm) (N := 12) hx hb hts in_Pm hown hK hP 0 rfl rfl 1 (by decide) (hts _ fl_Pm_18) (fun _ h9 => h9) rfl d_Pm_size_101 ?_
        refine lv_iload_n hx hb d_Pm_size_104 rfl (lv_at hl 2 rfl) ?_
        obtain ⟨h_6, hw⟩ := hw
        refine va_iald hx hb hK hP 17 0 rfl rfl h_6 d_Pm_size_105 ?_
        refine lv_goto (tgt := 110) hx hb d_Pm_size_106 (by decide) ?_
        exact W.iret (v := fml k.toNatClampNeg) hx hb hr (fun t ht hW => ⟨⟨fml k.toNatClampNeg, (), rfl, hw, trivial⟩, hS.F ht⟩) hS.2.2 d_Pm_size_110
    · replace hw := hw.2 c_4
      by_cases c_7 : wh = 2
      · replace hw := hw.1 c_7
        refine lv_tableIn (tgt := 111) hx hb d_Pm_size_1 (by rw [c_7]; decide) (by rw [c_7]; decide) (by rw [c_7]; rfl) (by decide) ?_
        refine lv_aload_n hx hb d_Pm_size_111 rfl (lv_at hl 0 rfl) ?_
        refine va_get (D := G.1) (ci := 1) (v := .ref t0) (C := R_Pm) (T := T_Pm) (N := 12) hx hb hts in_Pm hown hK hP 0 rfl rfl 3 (by decide) (hts _ fl_Pm_26) (fun _ h9 => h9) rfl d_Pm_size_112 ?_
        refine lv_iload_n hx hb d_Pm_size_115 rfl (lv_at hl 2 rfl) ?_
        have hPc := hP.sub (ws' := [(t0, .inr (0, [.int 200, .ref t1, .ref t2, .ref t3, .int tC, .int tU])), (t1, .inl (G.2.1 0, 6, .inl tS)), (t2, .inl (G.2.1 0, 6, .inl tL)), (t3, .inl (G.2.1 2, 6, .inl tD))]) [5, 6, 7, 8] rfl
        refine pu_i (va_runV (As := [.int k]) (rest := []) ⟨hx, hb, hml, hown, hts⟩ (c_Ly_has l G t0 t1 t2 t3 6 200 tC tU tS tL tD k) (cwV 1 hts (gi_V ml_Pm_67 im_Ly_has se_Ly_has ini_Ly co_Ly_has) rfl rfl rfl (by decide +kernel) ⟨Nat.le_of_ble_eq_true rfl, Nat.le_of_ble_eq_true rfl⟩) ⟨cp_blind, va_recv hK hPc (ci := 0) (q0 := 0) rfl rfl, cp_pre hcx hS hPc⟩ rfl rfl hl.1 rfl (lv_room (Nat.le_of_ble_eq_true rfl)) d_Pm_size_116 ⟨Nat.le_of_ble_eq_true rfl, Nat.le_of_ble_eq_true rfl⟩) hS hP (fun H locs hP hS => ?_)
        refine lv_if_eq (tgt := 133) hx hb d_Pm_size_119 (by decide) (fun c_8 => ?_) (fun c_8 => ?_)
        · replace hw := hw.1 c_8
          refine lv_iconst (v := (-1)) hx hb d_Pm_size_133 (by decide) ?_
          exact W.iret (v := (-1)) hx hb hr (fun t ht hW => ⟨⟨(-1), (), rfl, hw, trivial⟩, hS.F ht⟩) hS.2.2 d_Pm_size_134
        · replace hw := hw.2 c_8
          refine lv_aload_n hx hb d_Pm_size_122 rfl (lv_at hl 0 rfl) ?_
          refine va_get (D := G.1) (ci := 1) (v := .ref t0) (C := R_Pm) (T := T_Pm) (N := 12) hx hb hts in_Pm hown hK hP 0 rfl rfl 3 (by decide) (hts _ fl_Pm_26) (fun _ h9 => h9) rfl d_Pm_size_123 ?_
          refine lv_iload_n hx hb d_Pm_size_126 rfl (lv_at hl 2 rfl) ?_
          obtain ⟨h_9, hw⟩ := hw
          have hPc := hP.sub (ws' := [(t0, .inr (0, [.int 200, .ref t1, .ref t2, .ref t3, .int tC, .int tU])), (t1, .inl (G.2.1 0, 6, .inl tS)), (t2, .inl (G.2.1 0, 6, .inl tL)), (t3, .inl (G.2.1 2, 6, .inl tD))]) [5, 6, 7, 8] rfl
          refine pu_i (va_runV (As := [.int k]) (rest := []) ⟨hx, hb, hml, hown, hts⟩ (c_Ly_lengthOf l G t0 t1 t2 t3 6 200 tC tU tS tL tD k h_9) (cwV 1 hts (gi_V ml_Pm_163 im_Ly_lengthOf se_Ly_lengthOf ini_Ly co_Ly_lengthOf) rfl rfl rfl (by decide +kernel) ⟨Nat.le_of_ble_eq_true rfl, Nat.le_of_ble_eq_true rfl⟩) ⟨cp_blind, va_recv hK hPc (ci := 0) (q0 := 0) rfl rfl, cp_pre hcx hS hPc⟩ rfl rfl hl.1 rfl (lv_room (Nat.le_of_ble_eq_true rfl)) d_Pm_size_127 ⟨Nat.le_of_ble_eq_true rfl, Nat.le_of_ble_eq_true rfl⟩) hS hP (fun H locs hP hS => ?_)
          refine lv_goto (tgt := 134) hx hb d_Pm_size_130 (by decide) ?_
          exact W.iret (v := ly_ln tC k tL) hx hb hr (fun t ht hW => ⟨⟨ly_ln tC k tL, (), rfl, hw, trivial⟩, hS.F ht⟩) hS.2.2 d_Pm_size_134
      · replace hw := hw.2 c_7
        by_cases c_10 : wh = 3
        · replace hw := hw.1 c_10
          refine lv_tableIn (tgt := 135) hx hb d_Pm_size_1 (by rw [c_10]; decide) (by rw [c_10]; decide) (by rw [c_10]; rfl) (by decide) ?_
          refine lv_aload_n hx hb d_Pm_size_135 rfl (lv_at hl 0 rfl) ?_
          refine va_get (D := G.1) (ci := 1) (v := .ref t0) (C := R_Pm) (T := T_Pm) (N := 12) hx hb hts in_Pm hown hK hP 0 rfl rfl 3 (by decide) (hts _ fl_Pm_26) (fun _ h9 => h9) rfl d_Pm_size_136 ?_
          refine lv_iload_n hx hb d_Pm_size_139 rfl (lv_at hl 2 rfl) ?_
          have hPc := hP.sub (ws' := [(t0, .inr (0, [.int 200, .ref t1, .ref t2, .ref t3, .int tC, .int tU])), (t1, .inl (G.2.1 0, 6, .inl tS)), (t2, .inl (G.2.1 0, 6, .inl tL)), (t3, .inl (G.2.1 2, 6, .inl tD))]) [5, 6, 7, 8] rfl
          refine pu_i (va_runV (As := [.int k]) (rest := []) ⟨hx, hb, hml, hown, hts⟩ (c_Ly_has l G t0 t1 t2 t3 6 200 tC tU tS tL tD k) (cwV 1 hts (gi_V ml_Pm_67 im_Ly_has se_Ly_has ini_Ly co_Ly_has) rfl rfl rfl (by decide +kernel) ⟨Nat.le_of_ble_eq_true rfl, Nat.le_of_ble_eq_true rfl⟩) ⟨cp_blind, va_recv hK hPc (ci := 0) (q0 := 0) rfl rfl, cp_pre hcx hS hPc⟩ rfl rfl hl.1 rfl (lv_room (Nat.le_of_ble_eq_true rfl)) d_Pm_size_140 ⟨Nat.le_of_ble_eq_true rfl, Nat.le_of_ble_eq_true rfl⟩) hS hP (fun H locs hP hS => ?_)
          refine lv_if_eq (tgt := 155) hx hb d_Pm_size_143 (by decide) (fun c_11 => ?_) (fun c_11 => ?_)
          · replace hw := hw.1 c_11
            refine lv_iconst (v := (-1)) hx hb d_Pm_size_155 (by decide) ?_
            exact W.iret (v := (-1)) hx hb hr (fun t ht hW => ⟨⟨(-1), (), rfl, hw, trivial⟩, hS.F ht⟩) hS.2.2 d_Pm_size_156
          · replace hw := hw.2 c_11
            refine lv_aload_n hx hb d_Pm_size_146 rfl (lv_at hl 0 rfl) ?_
            refine va_get (D := G.1) (ci := 1) (v := .ref atl) (C := R_Pm) (T := T_Pm) (N := 12) hx hb hts in_Pm hown hK hP 0 rfl rfl 4 (by decide) (hts _ fl_Pm_29) (fun _ h9 => h9) rfl d_Pm_size_147 ?_
            refine lv_iload_n hx hb d_Pm_size_150 rfl (lv_at hl 2 rfl) ?_
            obtain ⟨h_12, hw⟩ := hw
            refine va_iald hx hb hK hP 18 0 rfl rfl h_12 d_Pm_size_151 ?_
            refine lv_goto (tgt := 156) hx hb d_Pm_size_152 (by decide) ?_
            exact W.iret (v := ftl k.toNatClampNeg) hx hb hr (fun t ht hW => ⟨⟨ftl k.toNatClampNeg, (), rfl, hw, trivial⟩, hS.F ht⟩) hS.2.2 d_Pm_size_156
        · replace hw := hw.2 c_10
          by_cases c_13 : wh = 4
          · replace hw := hw.1 c_13
            refine lv_tableIn (tgt := 157) hx hb d_Pm_size_1 (by rw [c_13]; decide) (by rw [c_13]; decide) (by rw [c_13]; rfl) (by decide) ?_
            refine lv_aload_n hx hb d_Pm_size_157 rfl (lv_at hl 0 rfl) ?_
            refine va_get (D := G.1) (ci := 1) (v := .ref t0) (C := R_Pm) (T := T_Pm) (N := 12) hx hb hts in_Pm hown hK hP 0 rfl rfl 3 (by decide) (hts _ fl_Pm_26) (fun _ h9 => h9) rfl d_Pm_size_158 ?_
            refine lv_iload_n hx hb d_Pm_size_161 rfl (lv_at hl 2 rfl) ?_
            have hPc := hP.sub (ws' := [(t0, .inr (0, [.int 200, .ref t1, .ref t2, .ref t3, .int tC, .int tU])), (t1, .inl (G.2.1 0, 6, .inl tS)), (t2, .inl (G.2.1 0, 6, .inl tL)), (t3, .inl (G.2.1 2, 6, .inl tD))]) [5, 6, 7, 8] rfl
            refine pu_i (va_runV (As := [.int k]) (rest := []) ⟨hx, hb, hml, hown, hts⟩ (c_Ly_has l G t0 t1 t2 t3 6 200 tC tU tS tL tD k) (cwV 1 hts (gi_V ml_Pm_67 im_Ly_has se_Ly_has ini_Ly co_Ly_has) rfl rfl rfl (by decide +kernel) ⟨Nat.le_of_ble_eq_true rfl, Nat.le_of_ble_eq_true rfl⟩) ⟨cp_blind, va_recv hK hPc (ci := 0) (q0 := 0) rfl rfl, cp_pre hcx hS hPc⟩ rfl rfl hl.1 rfl (lv_room (Nat.le_of_ble_eq_true rfl)) d_Pm_size_162 ⟨Nat.le_of_ble_eq_true rfl, Nat.le_of_ble_eq_true rfl⟩) hS hP (fun H locs hP hS => ?_)
            refine lv_if_eq (tgt := 177) hx hb d_Pm_size_165 (by decide) (fun c_14 => ?_) (fun c_14 => ?_)
            · replace hw := hw.1 c_14
              refine lv_iconst (v := (-1)) hx hb d_Pm_size_177 (by decide) ?_
              exact W.iret (v := (-1)) hx hb hr (fun t ht hW => ⟨⟨(-1), (), rfl, hw, trivial⟩, hS.F ht⟩) hS.2.2 d_Pm_size_178
            · replace hw := hw.2 c_14
              refine lv_aload_n hx hb d_Pm_size_168 rfl (lv_at hl 0 rfl) ?_
              refine va_get (D := G.1) (ci := 1) (v := .ref att) (C := R_Pm) (T := T_Pm) (N := 12) hx hb hts in_Pm hown hK hP 0 rfl rfl 5 (by decide) (hts _ fl_Pm_32) (fun _ h9 => h9) rfl d_Pm_size_169 ?_
              refine lv_iload_n hx hb d_Pm_size_172 rfl (lv_at hl 2 rfl) ?_
              obtain ⟨h_15, hw⟩ := hw
              refine va_iald hx hb hK hP 19 0 rfl rfl h_15 d_Pm_size_173 ?_
              refine lv_goto (tgt := 178) hx hb d_Pm_size_174 (by decide) ?_
              exact W.iret (v := ftt k.toNatClampNeg) hx hb hr (fun t ht hW => ⟨⟨ftt k.toNatClampNeg, (), rfl, hw, trivial⟩, hS.F ht⟩) hS.2.2 d_Pm_size_178
          · replace hw := hw.2 c_13
            by_cases c_16 : wh = 5
            · replace hw := hw.1 c_16
              refine lv_tableIn (tgt := 179) hx hb d_Pm_size_1 (by rw [c_16]; decide) (by rw [c_16]; decide) (by rw [c_16]; rfl) (by decide) ?_
              refine lv_aload_n hx hb d_Pm_size_179 rfl (lv_at hl 0 rfl) ?_
              refine va_get (D := G.1) (ci := 1) (v := .ref b0) (C := R_Pm) (T := T_Pm) (N := 12) hx hb hts in_Pm hown hK hP 0 rfl rfl 7 (by decide) (hts _ fl_Pm_38) (fun _ h9 => h9) rfl d_Pm_size_180 ?_
              refine lv_iload_n hx hb d_Pm_size_183 rfl (lv_at hl 2 rfl) ?_
              have hPc := hP.sub (ws' := [(b0, .inr (0, [.int 600, .ref b1, .ref b2, .ref b3, .int bC, .int bU])), (b1, .inl (G.2.1 0, 24, .inl bS)), (b2, .inl (G.2.1 0, 24, .inl bL)), (b3, .inl (G.2.1 2, 24, .inl bD))]) [9, 10, 11, 12] rfl
              refine pu_i (va_runV (As := [.int k]) (rest := []) ⟨hx, hb, hml, hown, hts⟩ (c_Ly_has l G b0 b1 b2 b3 24 600 bC bU bS bL bD k) (cwV 1 hts (gi_V ml_Pm_67 im_Ly_has se_Ly_has ini_Ly co_Ly_has) rfl rfl rfl (by decide +kernel) ⟨Nat.le_of_ble_eq_true rfl, Nat.le_of_ble_eq_true rfl⟩) ⟨cp_blind, va_recv hK hPc (ci := 0) (q0 := 0) rfl rfl, cp_pre hcx hS hPc⟩ rfl rfl hl.1 rfl (lv_room (Nat.le_of_ble_eq_true rfl)) d_Pm_size_184 ⟨Nat.le_of_ble_eq_true rfl, Nat.le_of_ble_eq_true rfl⟩) hS hP (fun H locs hP hS => ?_)
              refine lv_if_eq (tgt := 201) hx hb d_Pm_size_187 (by decide) (fun c_17 => ?_) (fun c_17 => ?_)
              · replace hw := hw.1 c_17
                refine lv_iconst (v := (-1)) hx hb d_Pm_size_201 (by decide) ?_
                exact W.iret (v := (-1)) hx hb hr (fun t ht hW => ⟨⟨(-1), (), rfl, hw, trivial⟩, hS.F ht⟩) hS.2.2 d_Pm_size_202
              · replace hw := hw.2 c_17
                refine lv_aload_n hx hb d_Pm_size_190 rfl (lv_at hl 0 rfl) ?_
                refine va_get (D := G.1) (ci := 1) (v := .ref b0) (C := R_Pm) (T := T_Pm) (N := 12) hx hb hts in_Pm hown hK hP 0 rfl rfl 7 (by decide) (hts _ fl_Pm_38) (fun _ h9 => h9) rfl d_Pm_size_191 ?_
                refine lv_iload_n hx hb d_Pm_size_194 rfl (lv_at hl 2 rfl) ?_
                obtain ⟨h_18, hw⟩ := hw
                have hPc := hP.sub (ws' := [(b0, .inr (0, [.int 600, .ref b1, .ref b2, .ref b3, .int bC, .int bU])), (b1, .inl (G.2.1 0, 24, .inl bS)), (b2, .inl (G.2.1 0, 24, .inl bL)), (b3, .inl (G.2.1 2, 24, .inl bD))]) [9, 10, 11, 12] rfl
                refine pu_i (va_runV (As := [.int k]) (rest := []) ⟨hx, hb, hml, hown, hts⟩ (c_Ly_lengthOf l G b0 b1 b2 b3 24 600 bC bU bS bL bD k h_18) (cwV 1 hts (gi_V ml_Pm_163 im_Ly_lengthOf se_Ly_lengthOf ini_Ly co_Ly_lengthOf) rfl rfl rfl (by decide +kernel) ⟨Nat.le_of_ble_eq_true rfl, Nat.le_of_ble_eq_true rfl⟩) ⟨cp_blind, va_recv hK hPc (ci := 0) (q0 := 0) rfl rfl, cp_pre hcx hS hPc⟩ rfl rfl hl.1 rfl (lv_room (Nat.le_of_ble_eq_true rfl)) d_Pm_size_195 ⟨Nat.le_of_ble_eq_true rfl, Nat.le_of_ble_eq_true rfl⟩) hS hP (fun H locs hP hS => ?_)
                refine lv_goto (tgt := 202) hx hb d_Pm_size_198 (by decide) ?_
                exact W.iret (v := ly_ln bC k bL) hx hb hr (fun t ht hW => ⟨⟨ly_ln bC k bL, (), rfl, hw, trivial⟩, hS.F ht⟩) hS.2.2 d_Pm_size_202
            · replace hw := hw.2 c_16
              by_cases c_19 : wh = 6
              · replace hw := hw.1 c_19
                refine lv_tableIn (tgt := 203) hx hb d_Pm_size_1 (by rw [c_19]; decide) (by rw [c_19]; decide) (by rw [c_19]; rfl) (by decide) ?_
                refine lv_aload_n hx hb d_Pm_size_203 rfl (lv_at hl 0 rfl) ?_
                refine va_get (D := G.1) (ci := 1) (v := .ref r0) (C := R_Pm) (T := T_Pm) (N := 12) hx hb hts in_Pm hown hK hP 0 rfl rfl 9 (by decide) (hts _ fl_Pm_44) (fun _ h9 => h9) rfl d_Pm_size_204 ?_
                refine lv_iload_n hx hb d_Pm_size_207 rfl (lv_at hl 2 rfl) ?_
                have hPc := hP.sub (ws' := [(r0, .inr (0, [.int 200, .ref r1, .ref r2, .ref r3, .int rC, .int rU])), (r1, .inl (G.2.1 0, 24, .inl rS)), (r2, .inl (G.2.1 0, 24, .inl rL)), (r3, .inl (G.2.1 2, 24, .inl rD))]) [13, 14, 15, 16] rfl
                refine pu_i (va_runV (As := [.int k]) (rest := []) ⟨hx, hb, hml, hown, hts⟩ (c_Ly_has l G r0 r1 r2 r3 24 200 rC rU rS rL rD k) (cwV 1 hts (gi_V ml_Pm_67 im_Ly_has se_Ly_has ini_Ly co_Ly_has) rfl rfl rfl (by decide +kernel) ⟨Nat.le_of_ble_eq_true rfl, Nat.le_of_ble_eq_true rfl⟩) ⟨cp_blind, va_recv hK hPc (ci := 0) (q0 := 0) rfl rfl, cp_pre hcx hS hPc⟩ rfl rfl hl.1 rfl (lv_room (Nat.le_of_ble_eq_true rfl)) d_Pm_size_208 ⟨Nat.le_of_ble_eq_true rfl, Nat.le_of_ble_eq_true rfl⟩) hS hP (fun H locs hP hS => ?_)
                refine lv_if_eq (tgt := 225) hx hb d_Pm_size_211 (by decide) (fun c_20 => ?_) (fun c_20 => ?_)
                · replace hw := hw.1 c_20
                  refine lv_iconst (v := (-1)) hx hb d_Pm_size_225 (by decide) ?_
                  exact W.iret (v := (-1)) hx hb hr (fun t ht hW => ⟨⟨(-1), (), rfl, hw, trivial⟩, hS.F ht⟩) hS.2.2 d_Pm_size_226
                · replace hw := hw.2 c_20
                  refine lv_aload_n hx hb d_Pm_size_214 rfl (lv_at hl 0 rfl) ?_
                  refine va_get (D := G.1) (ci := 1) (v := .ref r0) (C := R_Pm) (T := T_Pm) (N := 12) hx hb hts in_Pm hown hK hP 0 rfl rfl 9 (by decide) (hts _ fl_Pm_44) (fun _ h9 => h9) rfl d_Pm_size_215 ?_
                  refine lv_iload_n hx hb d_Pm_size_218 rfl (lv_at hl 2 rfl) ?_
                  obtain ⟨h_21, hw⟩ := hw
                  have hPc := hP.sub (ws' := [(r0, .inr (0, [.int 200, .ref r1, .ref r2, .ref r3, .int rC, .int rU])), (r1, .inl (G.2.1 0, 24, .inl rS)), (r2, .inl (G.2.1 0, 24, .inl rL)), (r3, .inl (G.2.1 2, 24, .inl rD))]) [13, 14, 15, 16] rfl
                  refine pu_i (va_runV (As := [.int k]) (rest := []) ⟨hx, hb, hml, hown, hts⟩ (c_Ly_lengthOf l G r0 r1 r2 r3 24 200 rC rU rS rL rD k h_21) (cwV 1 hts (gi_V ml_Pm_163 im_Ly_lengthOf se_Ly_lengthOf ini_Ly co_Ly_lengthOf) rfl rfl rfl (by decide +kernel) ⟨Nat.le_of_ble_eq_true rfl, Nat.le_of_ble_eq_true rfl⟩) ⟨cp_blind, va_recv hK hPc (ci := 0) (q0 := 0) rfl rfl, cp_pre hcx hS hPc⟩ rfl rfl hl.1 rfl (lv_room (Nat.le_of_ble_eq_true rfl)) d_Pm_size_219 ⟨Nat.le_of_ble_eq_true rfl, Nat.le_of_ble_eq_true rfl⟩) hS hP (fun H locs hP hS => ?_)
                  refine lv_goto (tgt := 226) hx hb d_Pm_size_222 (by decide) ?_
                  exact W.iret (v := ly_ln rC k rL) hx hb hr (fun t ht hW => ⟨⟨ly_ln rC k rL, (), rfl, hw, trivial⟩, hS.F ht⟩) hS.2.2 d_Pm_size_226
              · replace hw := hw.2 c_19
                by_cases c_22 : wh = 7
                · replace hw := hw.1 c_22
                  refine lv_tableIn (tgt := 227) hx hb d_Pm_size_1 (by rw [c_22]; decide) (by rw [c_22]; decide) (by rw [c_22]; rfl) (by decide) ?_
                  refine lv_aload_n hx hb d_Pm_size_227 rfl (lv_at hl 0 rfl) ?_
                  have hPc := hP.sub (ws' := [(h, .inr (1, [.ref m0, .ref aml, .ref amb, .ref t0, .ref atl, .ref att, .ref ate, .ref b0, .ref asb, .ref r0, .ref asr, .int trp])), (m0, .inr (0, [.int 12288, .ref m1, .ref m2, .ref m3, .int mC, .int mU])), (m1, .inl (G.2.1 0, 6, .inl mS)), (m2, .inl (G.2.1 0, 6, .inl mL)), (m3, .inl (G.2.1 2, 6, .inl mD))]) [0, 1, 2, 3, 4] rfl
                  refine pu_i (va_runV (As := []) (rest := []) ⟨hx, hb, hml, hown, hts⟩ (c_Pm_pagesLeft l G h m0 aml amb t0 atl att ate b0 asb r0 asr m1 m2 m3 trp mC mU mS mL mD) (cwV 0 hts (gi_V ml_Pm_59 im_Pm_pagesLeft se_Pm_pagesLeft ini_Pm co_Pm_pagesLeft) rfl rfl rfl (by decide +kernel) ⟨Nat.le_of_ble_eq_true rfl, Nat.le_of_ble_eq_true rfl⟩) ⟨cp_blind, va_recv hK hPc (ci := 1) (q0 := 0) rfl rfl, cp_pre hcx hS hPc⟩ rfl rfl hl.1 rfl (lv_room (Nat.le_of_ble_eq_true rfl)) d_Pm_size_228 ⟨Nat.le_of_ble_eq_true rfl, Nat.le_of_ble_eq_true rfl⟩) hS hP (fun H locs hP hS => ?_)
                  exact W.iret (v := (12288 - mU) / 256) hx hb hr (fun t ht hW => ⟨⟨(12288 - mU) / 256, (), rfl, hw, trivial⟩, hS.F ht⟩) hS.2.2 d_Pm_size_231
                · replace hw := hw.2 c_22
                  by_cases c_23 : wh = 8
                  · replace hw := hw.1 c_23
                    refine lv_tableIn (tgt := 232) hx hb d_Pm_size_1 (by rw [c_23]; decide) (by rw [c_23]; decide) (by rw [c_23]; rfl) (by decide) ?_
                    refine lv_aload_n hx hb d_Pm_size_232 rfl (lv_at hl 0 rfl) ?_
                    refine va_get (D := G.1) (ci := 1) (v := .ref t0) (C := R_Pm) (T := T_Pm) (N := 12) hx hb hts in_Pm hown hK hP 0 rfl rfl 3 (by decide) (hts _ fl_Pm_26) (fun _ h9 => h9) rfl d_Pm_size_233 ?_
                    have hPc := hP.sub (ws' := [(t0, .inr (0, [.int 200, .ref t1, .ref t2, .ref t3, .int tC, .int tU])), (t1, .inl (G.2.1 0, 6, .inl tS)), (t2, .inl (G.2.1 0, 6, .inl tL)), (t3, .inl (G.2.1 2, 6, .inl tD))]) [5, 6, 7, 8] rfl
                    refine pu_i (va_runV (As := []) (rest := []) ⟨hx, hb, hml, hown, hts⟩ (c_Ly_left l G t0 t1 t2 t3 6 200 tC tU tS tL tD) (cwV 0 hts (gi_V ml_Pm_150 im_Ly_left se_Ly_left ini_Ly co_Ly_left) rfl rfl rfl (by decide +kernel) ⟨Nat.le_of_ble_eq_true rfl, Nat.le_of_ble_eq_true rfl⟩) ⟨cp_blind, va_recv hK hPc (ci := 0) (q0 := 0) rfl rfl, cp_pre hcx hS hPc⟩ rfl rfl hl.1 rfl (lv_room (Nat.le_of_ble_eq_true rfl)) d_Pm_size_236 ⟨Nat.le_of_ble_eq_true rfl, Nat.le_of_ble_eq_true rfl⟩) hS hP (fun H locs hP hS => ?_)
                    exact W.iret (v := 200 - tU) hx hb hr (fun t ht hW => ⟨⟨200 - tU, (), rfl, hw, trivial⟩, hS.F ht⟩) hS.2.2 d_Pm_size_239
                  · replace hw := hw.2 c_23
                    by_cases c_24 : wh = 9
                    · replace hw := hw.1 c_24
                      refine lv_tableIn (tgt := 240) hx hb d_Pm_size_1 (by rw [c_24]; decide) (by rw [c_24]; decide) (by rw [c_24]; rfl) (by decide) ?_
                      refine lv_aload_n hx hb d_Pm_size_240 rfl (lv_at hl 0 rfl) ?_
                      refine va_get (D := G.1) (ci := 1) (v := .ref m0) (C := R_Pm) (T := T_Pm) (N := 12) hx hb hts in_Pm hown hK hP 0 rfl rfl 0 (by decide) (hts _ fl_Pm_14) (fun _ h9 => h9) rfl d_Pm_size_241 ?_
                      have hPc := hP.sub (ws' := [(m0, .inr (0, [.int 12288, .ref m1, .ref m2, .ref m3, .int mC, .int mU])), (m1, .inl (G.2.1 0, 6, .inl mS)), (m2, .inl (G.2.1 0, 6, .inl mL)), (m3, .inl (G.2.1 2, 6, .inl mD))]) [1, 2, 3, 4] rfl
                      refine pu_i (va_runV (As := []) (rest := []) ⟨hx, hb, hml, hown, hts⟩ (c_Ly_count l G m0 m1 m2 m3 6 12288 mC mU mS mL mD) (cwV 0 hts (gi_V ml_Pm_170 im_Ly_count se_Ly_count ini_Ly co_Ly_count) rfl rfl rfl (by decide +kernel) ⟨Nat.le_of_ble_eq_true rfl, Nat.le_of_ble_eq_true rfl⟩) ⟨cp_blind, va_recv hK hPc (ci := 0) (q0 := 0) rfl rfl, cp_pre hcx hS hPc⟩ rfl rfl hl.1 rfl (lv_room (Nat.le_of_ble_eq_true rfl)) d_Pm_size_244 ⟨Nat.le_of_ble_eq_true rfl, Nat.le_of_ble_eq_true rfl⟩) hS hP (fun H locs hP hS => ?_)
                      exact W.iret (v := mC) hx hb hr (fun t ht hW => ⟨⟨mC, (), rfl, hw, trivial⟩, hS.F ht⟩) hS.2.2 d_Pm_size_247
                    · replace hw := hw.2 c_24
                      by_cases c_25 : wh = 10
                      · replace hw := hw.1 c_25
                        refine lv_tableIn (tgt := 248) hx hb d_Pm_size_1 (by rw [c_25]; decide) (by rw [c_25]; decide) (by rw [c_25]; rfl) (by decide) ?_
                        refine lv_aload_n hx hb d_Pm_size_248 rfl (lv_at hl 0 rfl) ?_
                        refine va_get (D := G.1) (ci := 1) (v := .ref t0) (C := R_Pm) (T := T_Pm) (N := 12) hx hb hts in_Pm hown hK hP 0 rfl rfl 3 (by decide) (hts _ fl_Pm_26) (fun _ h9 => h9) rfl d_Pm_size_249 ?_
                        have hPc := hP.sub (ws' := [(t0, .inr (0, [.int 200, .ref t1, .ref t2, .ref t3, .int tC, .int tU])), (t1, .inl (G.2.1 0, 6, .inl tS)), (t2, .inl (G.2.1 0, 6, .inl tL)), (t3, .inl (G.2.1 2, 6, .inl tD))]) [5, 6, 7, 8] rfl
                        refine pu_i (va_runV (As := []) (rest := []) ⟨hx, hb, hml, hown, hts⟩ (c_Ly_count l G t0 t1 t2 t3 6 200 tC tU tS tL tD) (cwV 0 hts (gi_V ml_Pm_170 im_Ly_count se_Ly_count ini_Ly co_Ly_count) rfl rfl rfl (by decide +kernel) ⟨Nat.le_of_ble_eq_true rfl, Nat.le_of_ble_eq_true rfl⟩) ⟨cp_blind, va_recv hK hPc (ci := 0) (q0 := 0) rfl rfl, cp_pre hcx hS hPc⟩ rfl rfl hl.1 rfl (lv_room (Nat.le_of_ble_eq_true rfl)) d_Pm_size_252 ⟨Nat.le_of_ble_eq_true rfl, Nat.le_of_ble_eq_true rfl⟩) hS hP (fun H locs hP hS => ?_)
                        exact W.iret (v := tC) hx hb hr (fun t ht hW => ⟨⟨tC, (), rfl, hw, trivial⟩, hS.F ht⟩) hS.2.2 d_Pm_size_255
                      · replace hw := hw.2 c_25
                        by_cases c_26 : wh = 11
                        · replace hw := hw.1 c_26
                          refine lv_tableIn (tgt := 256) hx hb d_Pm_size_1 (by rw [c_26]; decide) (by rw [c_26]; decide) (by rw [c_26]; rfl) (by decide) ?_
                          refine lv_aload_n hx hb d_Pm_size_256 rfl (lv_at hl 0 rfl) ?_
                          refine va_get (D := G.1) (ci := 1) (v := .ref b0) (C := R_Pm) (T := T_Pm) (N := 12) hx hb hts in_Pm hown hK hP 0 rfl rfl 7 (by decide) (hts _ fl_Pm_38) (fun _ h9 => h9) rfl d_Pm_size_257 ?_
                          have hPc := hP.sub (ws' := [(b0, .inr (0, [.int 600, .ref b1, .ref b2, .ref b3, .int bC, .int bU])), (b1, .inl (G.2.1 0, 24, .inl bS)), (b2, .inl (G.2.1 0, 24, .inl bL)), (b3, .inl (G.2.1 2, 24, .inl bD))]) [9, 10, 11, 12] rfl
                          refine pu_i (va_runV (As := []) (rest := []) ⟨hx, hb, hml, hown, hts⟩ (c_Ly_count l G b0 b1 b2 b3 24 600 bC bU bS bL bD) (cwV 0 hts (gi_V ml_Pm_170 im_Ly_count se_Ly_count ini_Ly co_Ly_count) rfl rfl rfl (by decide +kernel) ⟨Nat.le_of_ble_eq_true rfl, Nat.le_of_ble_eq_true rfl⟩) ⟨cp_blind, va_recv hK hPc (ci := 0) (q0 := 0) rfl rfl, cp_pre hcx hS hPc⟩ rfl rfl hl.1 rfl (lv_room (Nat.le_of_ble_eq_true rfl)) d_Pm_size_260 ⟨Nat.le_of_ble_eq_true rfl, Nat.le_of_ble_eq_true rfl⟩) hS hP (fun H locs hP hS => ?_)
                          exact W.iret (v := bC) hx hb hr (fun t ht hW => ⟨⟨bC, (), rfl, hw, trivial⟩, hS.F ht⟩) hS.2.2 d_Pm_size_263
                        · replace hw := hw.2 c_26
                          by_cases c_27 : wh = 12
                          · replace hw := hw.1 c_27
                            refine lv_tableIn (tgt := 264) hx hb d_Pm_size_1 (by rw [c_27]; decide) (by rw [c_27]; decide) (by rw [c_27]; rfl) (by decide) ?_
                            refine lv_aload_n hx hb d_Pm_size_264 rfl (lv_at hl 0 rfl) ?_
                            refine va_get (D := G.1) (ci := 1) (v := .ref r0) (C := R_Pm) (T := T_Pm) (N := 12) hx hb hts in_Pm hown hK hP 0 rfl rfl 9 (by decide) (hts _ fl_Pm_44) (fun _ h9 => h9) rfl d_Pm_size_265 ?_
                            have hPc := hP.sub (ws' := [(r0, .inr (0, [.int 200, .ref r1, .ref r2, .ref r3, .int rC, .int rU])), (r1, .inl (G.2.1 0, 24, .inl rS)), (r2, .inl (G.2.1 0, 24, .inl rL)), (r3, .inl (G.2.1 2, 24, .inl rD))]) [13, 14, 15, 16] rfl
                            refine pu_i (va_runV (As := []) (rest := []) ⟨hx, hb, hml, hown, hts⟩ (c_Ly_count l G r0 r1 r2 r3 24 200 rC rU rS rL rD) (cwV 0 hts (gi_V ml_Pm_170 im_Ly_count se_Ly_count ini_Ly co_Ly_count) rfl rfl rfl (by decide +kernel) ⟨Nat.le_of_ble_eq_true rfl, Nat.le_of_ble_eq_true rfl⟩) ⟨cp_blind, va_recv hK hPc (ci := 0) (q0 := 0) rfl rfl, cp_pre hcx hS hPc⟩ rfl rfl hl.1 rfl (lv_room (Nat.le_of_ble_eq_true rfl)) d_Pm_size_268 ⟨Nat.le_of_ble_eq_true rfl, Nat.le_of_ble_eq_true rfl⟩) hS hP (fun H locs hP hS => ?_)
                            exact W.iret (v := rC) hx hb hr (fun t ht hW => ⟨⟨rC, (), rfl, hw, trivial⟩, hS.F ht⟩) hS.2.2 d_Pm_size_271
                          · replace hw := hw.2 c_27
                            have nc_1 := lv_neT (a := 0) c_1 (by decide)
                            have nc_4 := lv_neT (a := 1) c_4 (by decide)
                            have nc_7 := lv_neT (a := 2) c_7 (by decide)
                            have nc_10 := lv_neT (a := 3) c_10 (by decide)
                            have nc_13 := lv_neT (a := 4) c_13 (by decide)
                            have nc_16 := lv_neT (a := 5) c_16 (by decide)
                            have nc_19 := lv_neT (a := 6) c_19 (by decide)
                            have nc_22 := lv_neT (a := 7) c_22 (by decide)
                            have nc_23 := lv_neT (a := 8) c_23 (by decide)
                            have nc_24 := lv_neT (a := 9) c_24 (by decide)
                            have nc_25 := lv_neT (a := 10) c_25 (by decide)
                            have nc_26 := lv_neT (a := 11) c_26 (by decide)
                            have nc_27 := lv_neT (a := 12) c_27 (by decide)
                            refine lv_tableOut (tgt := 272) hx hb d_Pm_size_1 (by omega) (by decide) ?_
                            refine lv_iconst (v := (-1)) hx hb d_Pm_size_272 (by decide) ?_
                            exact W.iret (v := (-1)) hx hb hr (fun t ht hW => ⟨⟨(-1), (), rfl, hw, trivial⟩, hS.F ht⟩) hS.2.2 d_Pm_size_273
