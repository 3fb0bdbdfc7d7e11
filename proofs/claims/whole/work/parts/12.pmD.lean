def wp_Pm_load_73 (post : Int64 → Int32 → Prop) (postx : String → Int32 → Prop) (op : Int32) (wd : Int32) (pl : Int32) (trp : Int32) (mC : Int32) (mU : Int32) (mS : Nat → Int32) (mL : Nat → Int32) (mD : Nat → Int32) (fmb : Nat → Int32) : Nat → Int64 → Int32 → Prop
  | 0 => fun _ _ => False
  | n9 + 1 => fun acc x9 => ((wd ≤ x9 → (post (ext_of op acc) trp)) ∧ (¬ wd ≤ x9 → ((vp_in (pl + x9) 12288) ∧ (∀ x_103 : Int64, x_103 = acc ||| ((((fmb (pl + x9).toNatClampNeg).toInt64) &&& 255) <<< ((8 * x9).toInt64 &&& 63)) → (∀ x_104 : Int32, x_104 = x9 + 1 → (wp_Pm_load_73 post postx op wd pl trp mC mU mS mL mD fmb n9 x_103 x_104))))))
set_option maxHeartbeats 4000000 in
set_option maxRecDepth 100000 in
theorem l_Pm_load_73 {p : Program} {l : Launch} {e : Env} {s : State} {m : MethodId} {args : Array Value} {below : List Frame} {meth : Method} {c : Code} (G : cxT) (h : Nat) (m0 : Nat) (aml : Nat) (amb : Nat) (t0 : Nat) (atl : Nat) (att : Nat) (ate : Nat) (b0 : Nat) (asb : Nat) (r0 : Nat) (asr : Nat) (m1 : Nat) (m2 : Nat) (m3 : Nat) (A : Nat → Prop) (post : Int64 → Int32 → Prop) (postx : String → Int32 → Prop) (op : Int32) (wd : Int32) (pl : Int32) (trp : Int32) (mC : Int32) (mU : Int32) (mS : Nat → Int32) (mL : Nat → Int32) (mD : Nat → Int32) (fmb : Nat → Int32) (hx : p.tables.exec = Jvm.exec) (hb : c.code = b_Pm_load) (hr : meth.sig.returnType = (some .long)) (hml : c.maxLocals = 10) (hown : s.vm.findClass R_Pm = some m.cls) (hlocks : meth.locks = false) (hcx : cx G A s) (hA : ∀ q : Nat, s.heap.size ≤ q → A q) (hst : l.stackTraces = false) (hnt : ∀ (pc : Nat), ∀ x ∈ c.exceptionTable.toList, covers x pc = false) :
    ∀ (n9 : Nat) (acc : Int64) (x9 : Int32), wp_Pm_load_73 post postx op wd pl trp mC mU mS mL mD fmb n9 acc x9 → ∀ (H : Heap) (locs : List Loc), va_P G.1 vwC [(h, .inr (1, [.ref m0, .ref aml, .ref amb, .ref t0, .ref atl, .ref att, .ref ate, .ref b0, .ref asb, .ref r0, .ref asr, .int trp])), (m0, .inr (0, [.int 12288, .ref m1, .ref m2, .ref m3, .int mC, .int mU])), (m1, .inl (G.2.1 0, 6, .inl mS)), (m2, .inl (G.2.1 0, 6, .inl mL)), (m3, .inl (G.2.1 2, 6, .inl mD)), (amb, .inl (G.2.1 1, 12288, .inl fmb))] H → va_D A [(h, .inr (1, [.ref m0, .ref aml, .ref amb, .ref t0, .ref atl, .ref att, .ref ate, .ref b0, .ref asb, .ref r0, .ref asr, .int trp])), (m0, .inr (0, [.int 12288, .ref m1, .ref m2, .ref m3, .int mC, .int mU])), (m1, .inl (G.2.1 0, 6, .inl mS)), (m2, .inl (G.2.1 0, 6, .inl mL)), (m3, .inl (G.2.1 2, 6, .inl mD)), (amb, .inl (G.2.1 1, 12288, .inl fmb))] → va_S A s.heap H locs → ∀ (ls : Array Slot), lv_has ls 10 [(0, .ref h), (2, .int op), (5, .int wd), (6, .int pl), (7, .long acc), (9, .int x9)] → W p l e (headSpec [.code y_Pm_load b_Pm_load 10 (some .long)] ({ frames := 8, cells := 1, slots := 6, locals := 140 } : Room)).room s m args below meth c H locs 1 6 (tr_MQ below (va_Ql post (fun u t => va_P G.1 vwC [(h, .inr (1, [.ref m0, .ref aml, .ref amb, .ref t0, .ref atl, .ref att, .ref ate, .ref b0, .ref asb, .ref r0, .ref asr, .int u])), (m0, .inr (0, [.int 12288, .ref m1, .ref m2, .ref m3, .int mC, .int mU])), (m1, .inl (G.2.1 0, 6, .inl mS)), (m2, .inl (G.2.1 0, 6, .inl mL)), (m3, .inl (G.2.1 2, 6, .inl mD)), (amb, .inl (G.2.1 1, 12288, .inl fmb))] t.heap) A) (fun E t => ∃ u : Int32, postx E u ∧ va_P G.1 vwC [(h, .inr (1, [.ref m0, .ref aml, .ref amb, .ref t0, .ref atl, .ref att, .ref ate, .ref b0, .ref asb, .ref r0, .ref asr, .int u])), (m0, .inr (0, [.int 12288, .ref m1, .ref m2, .ref m3, .int mC, .int mU])), (m1, .inl (G.2.1 0, 6, .inl mS)), (m2, .inl (G.2.1 0, 6, .inl mL)), (m3, .inl (G.2.1 2, 6, .inl mD)), (amb, .inl (G.2.1 1, 12288, .inl fmb))] t.heap) A args s 1 6) (F0 m 73 ls []) := by
  have hts := hcx.now.1 args
  have hK := hcx.now.2.1
  intro n9
  induction n9 with
  | zero =>
    intro acc x9 hw
    exact hw.elim
  | succ n9 ih =>
    intro acc x9 hw H locs hP hD hS ls hl
    unfold wp_Pm_load_73 at hw
    refine lv_iload hx hb d_Pm_load_73 (lv_at hl 5 rfl) ?_
    refine lv_iload hx hb d_Pm_load_75 (lv_at hl 2 rfl) ?_
    refine lv_icmp_ge (tgt := 112) hx hb d_Pm_load_77 (by decide) (fun c_101 => ?_) (fun c_101 => ?_)
    · replace hw := hw.1 c_101
      refine lv_iload_n hx hb d_Pm_load_112 rfl (lv_at hl 1 rfl) ?_
      refine lv_lload hx hb d_Pm_load_113 (lv_at hl 4 rfl) ?_
      have hPc := hP.sub (ws' := []) [] rfl
      refine pu_l (va_runS (As := [.int op, .long acc]) (rest := []) ⟨hx, hb, hml, hown, hts⟩ (c_Pm_extended l G op acc) (va_cwS 2 hts (gi_S ml_Pm_119 sm_Pm_extended ini_Pm co_Pm_extended) rfl rfl rfl (by decide +kernel) ⟨Nat.le_of_ble_eq_true rfl, Nat.le_of_ble_eq_true rfl⟩) ⟨cp_blind, cp_pre hcx hS hPc⟩ rfl rfl hl.1 rfl (lv_room (Nat.le_of_ble_eq_true rfl)) d_Pm_load_115 ⟨Nat.le_of_ble_eq_true rfl, Nat.le_of_ble_eq_true rfl⟩) hS hP (fun H locs hP hS => ?_)
      exact tr_ret (W.lret (v := ext_of op acc) hx hb hr (fun t ht hW => ⟨⟨ext_of op acc, trp, rfl, hw, by have h9 := hP; rw [← ht] at h9; exact h9⟩, hS.F ht⟩) hS.2.2 d_Pm_load_118)
    · replace hw := hw.2 c_101
      refine lv_lload hx hb d_Pm_load_80 (lv_at hl 4 rfl) ?_
      refine lv_aload_n hx hb d_Pm_load_82 rfl (lv_at hl 0 rfl) ?_
      refine va_get (D := G.1) (ci := 1) (v := .ref amb) (C := R_Pm) (T := T_Pm) (N := 12) hx hb hts in_Pm hown hK hP 0 rfl rfl 2 (by decide) (hts _ fl_Pm_22) (fun _ h9 => h9) rfl d_Pm_load_83 ?_
      refine lv_iload hx hb d_Pm_load_86 (lv_at hl 3 rfl) ?_
      refine lv_iload hx hb d_Pm_load_88 (lv_at hl 5 rfl) ?_
      refine lv_iadd hx hb d_Pm_load_90 ?_
      obtain ⟨h_102, hw⟩ := hw
      refine va_bald hx hb hK hP 5 1 rfl rfl h_102 d_Pm_load_91 ?_
      refine lv_i2l (v := (fmb (pl + x9).toNatClampNeg).toInt64) hx hb d_Pm_load_92 rfl ?_
      refine lv_ldc2 (v := 255) hx hb hown (hts _ k_Pm_117) d_Pm_load_93 ?_
      refine lv_land hx hb d_Pm_load_96 ?_
      refine lv_bipush (v := 8) hx hb d_Pm_load_97 (by decide) ?_
      refine lv_iload hx hb d_Pm_load_99 (lv_at hl 5 rfl) ?_
      refine lv_imul hx hb d_Pm_load_101 ?_
      refine lv_lshl (v := (((fmb (pl + x9).toNatClampNeg).toInt64) &&& 255) <<< ((8 * x9).toInt64 &&& 63)) hx hb d_Pm_load_102 rfl ?_
      refine lv_lor hx hb d_Pm_load_103 ?_
      refine lv_topl (fun x_103 ex_103 => ?_)
      replace hw := hw x_103 ex_103
      refine lv_lstore (lv' := [(7, .long x_103), (0, .ref h), (2, .int op), (5, .int wd), (6, .int pl), (9, .int x9)]) hx hb d_Pm_load_104 hl (by decide) rfl (fun ls hl => ?_)
      obtain ⟨x_104, ex_104⟩ : ∃ y : Int32, y = x9 + 1 := ⟨_, rfl⟩
      replace hw := hw x_104 ex_104
      refine lv_iinc (v := x_104) (lv' := [(9, .int x_104), (7, .long x_103), (0, .ref h), (2, .int op), (5, .int wd), (6, .int pl)]) hx hb d_Pm_load_106 hl (k := 5) rfl (by rw [ex_104]; rfl) (by decide) rfl (fun ls hl => ?_)
      refine lv_goto (tgt := 73) hx hb d_Pm_load_109 (by decide) ?_
      exact ih x_103 x_104 hw _ _ hP hD hS ls (lv_sub hl [2, 3, 4, 5, 1, 0] rfl)
def wp_Pm_load (post : Int64 → Int32 → Prop) (postx : String → Int32 → Prop) (trp : Int32) (mC : Int32) (mU : Int32) (mS : Nat → Int32) (mL : Nat → Int32) (mD : Nat → Int32) (fmb : Nat → Int32) (k : Int32) (op : Int32) (ad : Int32) (off : Int32) : Prop := (0 ≤ (40 : Int32).toInt) ∧ (∀ x_2 : Int32, x_2 = w_of op 40 14 wLoad → (((ly_has mC k = 0 → (postx E_ill 0)) ∧ (¬ ly_has mC k = 0 → (((¬ x_2 = 0 → ((mC.toInt ≤ 6) ∧ (((lg_cmp (((u32 ad) + (u32 off)) + x_2.toInt64) (ly_ln mC k mL).toInt64 ≤ 0 → (∀ x_6 : Int32, x_6 = ly_st mC k mS + ((u32 ad) + (u32 off)).toInt32 → (∃ n9 : Nat, wp_Pm_load_73 post postx op x_2 x_6 0 mC mU mS mL mD fmb n9 0 0))) ∧ (¬ lg_cmp (((u32 ad) + (u32 off)) + x_2.toInt64) (ly_ln mC k mL).toInt64 ≤ 0 → (postx E_uns 4)))))) ∧ (x_2 = 0 → (postx E_ill 0))))))))
set_option maxHeartbeats 4000000 in
set_option maxRecDepth 100000 in
theorem t_Pm_load (l : Launch) (hst : l.stackTraces = false) (G : cxT) (h : Nat) (m0 : Nat) (aml : Nat) (amb : Nat) (t0 : Nat) (atl : Nat) (att : Nat) (ate : Nat) (b0 : Nat) (asb : Nat) (r0 : Nat) (asr : Nat) (m1 : Nat) (m2 : Nat) (m3 : Nat) (trp : Int32) (mC : Int32) (mU : Int32) (mS : Nat → Int32) (mL : Nat → Int32) (mD : Nat → Int32) (fmb : Nat → Int32) (k : Int32) (op : Int32) (ad : Int32) (off : Int32) (sz : Nat) (post : Int64 → Int32 → Prop) (postx : String → Int32 → Prop) (hw : wp_Pm_load post postx trp mC mU mS mL mD fmb k op ad off) : tr_Met l y_Pm_load [.code y_Pm_load b_Pm_load 10 (some .long)] ({ frames := 8, cells := 1, slots := 6, locals := 140 } : Room) (cm G [.ref h, .int k, .int op, .int ad, .int off] [(h, .inr (1, [.ref m0, .ref aml, .ref amb, .ref t0, .ref atl, .ref att, .ref ate, .ref b0, .ref asb, .ref r0, .ref asr, .int trp])), (m0, .inr (0, [.int 12288, .ref m1, .ref m2, .ref m3, .int mC, .int mU])), (m1, .inl (G.2.1 0, 6, .inl mS)), (m2, .inl (G.2.1 0, 6, .inl mL)), (m3, .inl (G.2.1 2, 6, .inl mD)), (amb, .inl (G.2.1 1, 12288, .inl fmb))] sz) (va_Ql post (fun u t => va_P G.1 vwC [(h, .inr (1, [.ref m0, .ref aml, .ref amb, .ref t0, .ref atl, .ref att, .ref ate, .ref b0, .ref asb, .ref r0, .ref asr, .int u])), (m0, .inr (0, [.int 12288, .ref m1, .ref m2, .ref m3, .int mC, .int mU])), (m1, .inl (G.2.1 0, 6, .inl mS)), (m2, .inl (G.2.1 0, 6, .inl mL)), (m3, .inl (G.2.1 2, 6, .inl mD)), (amb, .inl (G.2.1 1, 12288, .inl fmb))] t.heap) (va_A [(h, .inr (1, [.ref m0, .ref aml, .ref amb, .ref t0, .ref atl, .ref att, .ref ate, .ref b0, .ref asb, .ref r0, .ref asr, .int trp])), (m0, .inr (0, [.int 12288, .ref m1, .ref m2, .ref m3, .int mC, .int mU])), (m1, .inl (G.2.1 0, 6, .inl mS)), (m2, .inl (G.2.1 0, 6, .inl mL)), (m3, .inl (G.2.1 2, 6, .inl mD)), (amb, .inl (G.2.1 1, 12288, .inl fmb))] sz)) (fun E t => ∃ u : Int32, postx E u ∧ va_P G.1 vwC [(h, .inr (1, [.ref m0, .ref aml, .ref amb, .ref t0, .ref atl, .ref att, .ref ate, .ref b0, .ref asb, .ref r0, .ref asr, .int u])), (m0, .inr (0, [.int 12288, .ref m1, .ref m2, .ref m3, .int mC, .int mU])), (m1, .inl (G.2.1 0, 6, .inl mS)), (m2, .inl (G.2.1 0, 6, .inl mL)), (m3, .inl (G.2.1 2, 6, .inl mD)), (amb, .inl (G.2.1 1, 12288, .inl fmb))] t.heap) (va_A [(h, .inr (1, [.ref m0, .ref aml, .ref amb, .ref t0, .ref atl, .ref att, .ref ate, .ref b0, .ref asb, .ref r0, .ref asr, .int trp])), (m0, .inr (0, [.int 12288, .ref m1, .ref m2, .ref m3, .int mC, .int mU])), (m1, .inl (G.2.1 0, 6, .inl mS)), (m2, .inl (G.2.1 0, 6, .inl mL)), (m3, .inl (G.2.1 2, 6, .inl mD)), (amb, .inl (G.2.1 1, 12288, .inl fmb))] sz) 1 6 := by
  refine tr_ofW (cc := b_Pm_load) (maxL := 10) (ret := (some .long)) (by decide +kernel) rfl ?_
  intro p e s m args below meth c s₁ B hml hv
  obtain ⟨rfl, hsz, hcx, hP, hD0⟩ := hv
  have hx := B.exec
  have hb := B.bytes
  have hr := B.returns
  have hlocks := B.notSynchronized
  have hown : s.vm.findClass R_Pm = some m.cls := findClass_of_methodNamed B.named
  have hnt := tr_nt (ws := [.code y_Pm_load b_Pm_load 10 (some .long)]) (rm := ({ frames := 8, cells := 1, slots := 6, locals := 140 } : Room)) B rfl
  subst hsz
  have hD := hD0.self (sz := s.heap.size)
  generalize hAe : va_A [(h, .inr (1, [.ref m0, .ref aml, .ref amb, .ref t0, .ref atl, .ref att, .ref ate, .ref b0, .ref asb, .ref r0, .ref asr, .int trp])), (m0, .inr (0, [.int 12288, .ref m1, .ref m2, .ref m3, .int mC, .int mU])), (m1, .inl (G.2.1 0, 6, .inl mS)), (m2, .inl (G.2.1 0, 6, .inl mL)), (m3, .inl (G.2.1 2, 6, .inl mD)), (amb, .inl (G.2.1 1, 12288, .inl fmb))] s.heap.size = A at hD hcx ⊢
  have hA : ∀ q : Nat, s.heap.size ≤ q → A q := fun q h => by rw [← hAe]; exact Or.inr h
  have hS : va_S A s.heap s.heap [] := va_S.rf
  have hts := hcx.now.1 [.ref h, .int k, .int op, .int ad, .int off].toArray
  have hK := hcx.now.2.1
  have hl := lv_entry ([.ref h, .int k, .int op, .int ad, .int off]) (n := 10) (Nat.le_of_ble_eq_true rfl)
  rw [lg_entry_eq]
  generalize (lg_sl ([.ref h, .int k, .int op, .int ad, .int off]) ++ List.replicate (10 - (lg_sl ([.ref h, .int k, .int op, .int ad, .int off])).length) Slot.unset).toArray = ls at hl ⊢
  have hl : lv_has ls 10 [(0, .ref h), (1, .int k), (2, .int op), (3, .int ad), (4, .int off)] := hl
  unfold wp_Pm_load at hw
  refine lv_aload_n hx hb d_Pm_load_0 rfl (lv_at hl 0 rfl) ?_
  refine lv_iconst (v := 0) hx hb d_Pm_load_1 (by decide) ?_
  refine va_put (D := G.1) (ci := 1) (v := .int 0) (ty := (.int)) (C := R_Pm) (T := T_Pm) (N := 12) hx hb hts in_Pm ty_Pm tk_Pm nm_Pm hown hK hP hD hS 0 rfl rfl 11 (by decide) (hts _ fl_Pm_50) (fun _ h9 => h9) rfl (by decide +kernel) rfl rfl (Nat.le_of_ble_eq_true rfl) d_Pm_load_2 (fun H locs hP hD hS => ?_)
  have hP : va_P G.1 vwC [(h, .inr (1, [.ref m0, .ref aml, .ref amb, .ref t0, .ref atl, .ref att, .ref ate, .ref b0, .ref asb, .ref r0, .ref asr, .int 0])), (m0, .inr (0, [.int 12288, .ref m1, .ref m2, .ref m3, .int mC, .int mU])), (m1, .inl (G.2.1 0, 6, .inl mS)), (m2, .inl (G.2.1 0, 6, .inl mL)), (m3, .inl (G.2.1 2, 6, .inl mD)), (amb, .inl (G.2.1 1, 12288, .inl fmb))] H := hP
  have hD : va_D A [(h, .inr (1, [.ref m0, .ref aml, .ref amb, .ref t0, .ref atl, .ref att, .ref ate, .ref b0, .ref asb, .ref r0, .ref asr, .int 0])), (m0, .inr (0, [.int 12288, .ref m1, .ref m2, .ref m3, .int mC, .int mU])), (m1, .inl (G.2.1 0, 6, .inl mS)), (m2, .inl (G.2.1 0, 6, .inl mL)), (m3, .inl (G.2.1 2, 6, .inl mD)), (amb, .inl (G.2.1 1, 12288, .inl fmb))] := hD
  refine lv_iload_n hx hb d_Pm_load_5 rfl (lv_at hl 2 rfl) ?_
  refine lv_bipush (v := 40) hx hb d_Pm_load_6 (by decide) ?_
  refine va_gets (v := .ref (G.2.2 0)) hx hb hcx.now.2.2.2.2.1.1 hS hown (hts _ fl_Pm_99) (fun _ h9 => h9) d_Pm_load_8 ?_
  obtain ⟨h_1, hw⟩ := hw
  have hPc := hP.sub (ws' := []) [] rfl
  refine pu_i (va_runS (As := [.int op, .int 40, .ref (G.2.2 0)]) (rest := []) ⟨hx, hb, hml, hown, hts⟩ (c_Pm_widthOf_0 l G op 40 h_1) (va_cwS 3 hts (gi_S ml_Pm_102 sm_Pm_widthOf ini_Pm co_Pm_widthOf) rfl rfl rfl (by decide +kernel) ⟨Nat.le_of_ble_eq_true rfl, Nat.le_of_ble_eq_true rfl⟩) ⟨cp_blind, cp_pre hcx hS hPc⟩ rfl rfl hl.1 rfl (lv_room (Nat.le_of_ble_eq_true rfl)) d_Pm_load_11 ⟨Nat.le_of_ble_eq_true rfl, Nat.le_of_ble_eq_true rfl⟩) hS hP (fun H locs hP hS => ?_)
  refine lv_topi (fun x_2 ex_2 => ?_)
  replace hw := hw x_2 ex_2
  refine lv_istore (lv' := [(5, .int x_2), (0, .ref h), (1, .int k), (2, .int op), (3, .int ad), (4, .int off)]) hx hb d_Pm_load_14 hl (by decide) rfl (fun ls hl => ?_)
  refine lv_aload_n hx hb d_Pm_load_16 rfl (lv_at hl 1 rfl) ?_
  refine va_get (D := G.1) (ci := 1) (v := .ref m0) (C := R_Pm) (T := T_Pm) (N := 12) hx hb hts in_Pm hown hK hP 0 rfl rfl 0 (by decide) (hts _ fl_Pm_14) (fun _ h9 => h9) rfl d_Pm_load_17 ?_
  refine lv_iload_n hx hb d_Pm_load_20 rfl (lv_at hl 2 rfl) ?_
  have hPc := hP.sub (ws' := [(m0, .inr (0, [.int 12288, .ref m1, .ref m2, .ref m3, .int mC, .int mU])), (m1, .inl (G.2.1 0, 6, .inl mS)), (m2, .inl (G.2.1 0, 6, .inl mL)), (m3, .inl (G.2.1 2, 6, .inl mD))]) [1, 2, 3, 4] rfl
  refine pu_i (va_runV (As := [.int k]) (rest := []) ⟨hx, hb, hml, hown, hts⟩ (c_Ly_has l G m0 m1 m2 m3 6 12288 mC mU mS mL mD k) (cwV 1 hts (gi_V ml_Pm_67 im_Ly_has se_Ly_has ini_Ly co_Ly_has) rfl rfl rfl (by decide +kernel) ⟨Nat.le_of_ble_eq_true rfl, Nat.le_of_ble_eq_true rfl⟩) ⟨cp_blind, va_recv hK hPc (ci := 0) (q0 := 0) rfl rfl, cp_pre hcx hS hPc⟩ rfl rfl hl.1 rfl (lv_room (Nat.le_of_ble_eq_true rfl)) d_Pm_load_21 ⟨Nat.le_of_ble_eq_true rfl, Nat.le_of_ble_eq_true rfl⟩) hS hP (fun H locs hP hS => ?_)
  refine lv_if_eq (tgt := 32) hx hb d_Pm_load_24 (by decide) (fun c_3 => ?_) (fun c_3 => ?_)
  · replace hw := hw.1 c_3
    exact tr_throw hx hb hst hown (by decide +kernel) (by decide +kernel) (hcx.imp (fun V h => tw_ill_108 V h)) hS (hl.1.trans hml.symm) d_Pm_load_32 d_Pm_load_35 d_Pm_load_36 d_Pm_load_38 d_Pm_load_41 (hnt _) (Nat.le_of_ble_eq_true rfl) (Nat.le_of_ble_eq_true rfl) (Nat.le_of_ble_eq_true rfl) (Nat.le_of_ble_eq_true rfl) hlocks (fun t h1 h2 => ⟨0, hw, hP.kept fun k q hq => h2 q.1 (hP k q hq).lt⟩) hA (Nat.le_of_ble_eq_true rfl) (Nat.le_of_ble_eq_true rfl)
  · replace hw := hw.2 c_3
    refine lv_iload hx hb d_Pm_load_27 (lv_at hl 0 rfl) ?_
    refine lv_if_ne (tgt := 42) hx hb d_Pm_load_29 (by decide) (fun c_4 => ?_) (fun c_4 => ?_)
    · replace hw := hw.1 c_4
      refine lv_aload_n hx hb d_Pm_load_42 rfl (lv_at hl 1 rfl) ?_
      refine lv_aload_n hx hb d_Pm_load_43 rfl (lv_at hl 1 rfl) ?_
      refine va_get (D := G.1) (ci := 1) (v := .ref m0) (C := R_Pm) (T := T_Pm) (N := 12) hx hb hts in_Pm hown hK hP 0 rfl rfl 0 (by decide) (hts _ fl_Pm_14) (fun _ h9 => h9) rfl d_Pm_load_44 ?_
      refine lv_iload_n hx hb d_Pm_load_47 rfl (lv_at hl 2 rfl) ?_
      refine lv_iload_n hx hb d_Pm_load_48 rfl (lv_at hl 4 rfl) ?_
      have hPc := hP.sub (ws' := []) [] rfl
      refine pu_l (va_runS (As := [.int ad]) (rest := [.int k, .ref m0, .ref h]) ⟨hx, hb, hml, hown, hts⟩ (c_Pm_unsigned l G ad) (va_cwS 1 hts (gi_S ml_Pm_74 sm_Pm_unsigned ini_Pm co_Pm_unsigned) rfl rfl rfl (by decide +kernel) ⟨Nat.le_of_ble_eq_true rfl, Nat.le_of_ble_eq_true rfl⟩) ⟨cp_blind, cp_pre hcx hS hPc⟩ rfl rfl hl.1 rfl (lv_room (Nat.le_of_ble_eq_true rfl)) d_Pm_load_49 ⟨Nat.le_of_ble_eq_true rfl, Nat.le_of_ble_eq_true rfl⟩) hS hP (fun H locs hP hS => ?_)
      refine lv_iload hx hb d_Pm_load_52 (lv_at hl 5 rfl) ?_
      have hPc := hP.sub (ws' := []) [] rfl
      refine pu_l (va_runS (As := [.int off]) (rest := [.long (u32 ad), .int k, .ref m0, .ref h]) ⟨hx, hb, hml, hown, hts⟩ (c_Pm_unsigned l G off) (va_cwS 1 hts (gi_S ml_Pm_74 sm_Pm_unsigned ini_Pm co_Pm_unsigned) rfl rfl rfl (by decide +kernel) ⟨Nat.le_of_ble_eq_true rfl, Nat.le_of_ble_eq_true rfl⟩) ⟨cp_blind, cp_pre hcx hS hPc⟩ rfl rfl hl.1 rfl (lv_room (Nat.le_of_ble_eq_true rfl)) d_Pm_load_54 ⟨Nat.le_of_ble_eq_true rfl, Nat.le_of_ble_eq_true rfl⟩) hS hP (fun H locs hP hS => ?_)
      refine lv_ladd hx hb d_Pm_load_57 ?_
      refine lv_iload hx hb d_Pm_load_58 (lv_at hl 0 rfl) ?_
      refine lv_i2l (v := x_2.toInt64) hx hb d_Pm_load_60 rfl ?_
      refine lv_iconst (v := 4) hx hb d_Pm_load_61 (by decide) ?_
      obtain ⟨h_5, hw⟩ := hw
      have hPc := hP.sub (ws' := [(h, .inr (1, [.ref m0, .ref aml, .ref amb, .ref t0, .ref atl, .ref att, .ref ate, .ref b0, .ref asb, .ref r0, .ref asr, .int 0])), (m0, .inr (0, [.int 12288, .ref m1, .ref m2, .ref m3, .int mC, .int mU])), (m1, .inl (G.2.1 0, 6, .inl mS)), (m2, .inl (G.2.1 0, 6, .inl mL)), (m3, .inl (G.2.1 2, 6, .inl mD))]) [0, 1, 2, 3, 4] rfl
      have hDc := hD.sub (ws' := [(h, .inr (1, [.ref m0, .ref aml, .ref amb, .ref t0, .ref atl, .ref att, .ref ate, .ref b0, .ref asb, .ref r0, .ref asr, .int 0])), (m0, .inr (0, [.int 12288, .ref m1, .ref m2, .ref m3, .int mC, .int mU])), (m1, .inl (G.2.1 0, 6, .inl mS)), (m2, .inl (G.2.1 0, 6, .inl mL)), (m3, .inl (G.2.1 2, 6, .inl mD))]) [0, 1, 2, 3, 4] (by decide) rfl
      have hFc := va_free (wc := [(h, .inr (1, [.ref m0, .ref aml, .ref amb, .ref t0, .ref atl, .ref att, .ref ate, .ref b0, .ref asb, .ref r0, .ref asr, .int 0])), (m0, .inr (0, [.int 12288, .ref m1, .ref m2, .ref m3, .int mC, .int mU])), (m1, .inl (G.2.1 0, 6, .inl mS)), (m2, .inl (G.2.1 0, 6, .inl mL)), (m3, .inl (G.2.1 2, 6, .inl mD))]) hD hS hA [0, 1, 2, 3, 4] rfl
      refine tx_i (tr_runV (As := [.ref m0, .int k, .long ((u32 ad) + (u32 off)), .long x_2.toInt64, .int 4]) (rest := []) ⟨hx, hb, hml, hown, hts⟩ (c_Pm_placeOf l hst G h m0 aml amb t0 atl att ate b0 asb r0 asr m0 m1 m2 m3 6 0 12288 mC mU mS mL mD k ((u32 ad) + (u32 off)) x_2.toInt64 4 _ h_5) (cwV 5 hts (gi_V ml_Pm_113 im_Pm_placeOf se_Pm_placeOf ini_Pm co_Pm_placeOf) rfl rfl rfl (by decide +kernel) ⟨Nat.le_of_ble_eq_true rfl, Nat.le_of_ble_eq_true rfl⟩) ⟨cm_blind, va_recv hK hPc (ci := 1) (q0 := 0) rfl rfl, cm_pre hcx hS hPc hDc hFc⟩ rfl rfl hl.1 rfl (lv_room (Nat.le_of_ble_eq_true rfl)) d_Pm_load_62 ⟨Nat.le_of_ble_eq_true rfl, Nat.le_of_ble_eq_true rfl⟩) hS hP hD hA [0, 1, 2, 3, 4] rfl (fun _ => rfl) (fun _ => rfl) (fun E9 u9 hp q9 ce9 H locs hP hD hS h91 h92 h93 => ?_) (fun r9 u9 H locs hp hP hD hS => ?_)
      · obtain ⟨hN, rfl, rfl⟩ := hp
        exact tr_pass (hnt _) hlocks h91 h92 h93 (fun t ht => ⟨4, hw.2 hN, by have h9 := hP; rw [← ht] at h9; exact h9⟩) hS (Nat.le_of_ble_eq_true rfl) (Nat.le_of_ble_eq_true rfl)
      · obtain ⟨hN, e91, e92⟩ := hp; replace e91 := e91.symm; replace e92 := e92.symm; subst e91; subst e92
        replace hw := hw.1 hN
        have hP : va_P G.1 vwC [(h, .inr (1, [.ref m0, .ref aml, .ref amb, .ref t0, .ref atl, .ref att, .ref ate, .ref b0, .ref asb, .ref r0, .ref asr, .int 0])), (m0, .inr (0, [.int 12288, .ref m1, .ref m2, .ref m3, .int mC, .int mU])), (m1, .inl (G.2.1 0, 6, .inl mS)), (m2, .inl (G.2.1 0, 6, .inl mL)), (m3, .inl (G.2.1 2, 6, .inl mD)), (amb, .inl (G.2.1 1, 12288, .inl fmb))] H := hP
        have hD : va_D A [(h, .inr (1, [.ref m0, .ref aml, .ref amb, .ref t0, .ref atl, .ref att, .ref ate, .ref b0, .ref asb, .ref r0, .ref asr, .int 0])), (m0, .inr (0, [.int 12288, .ref m1, .ref m2, .ref m3, .int mC, .int mU])), (m1, .inl (G.2.1 0, 6, .inl mS)), (m2, .inl (G.2.1 0, 6, .inl mL)), (m3, .inl (G.2.1 2, 6, .inl mD)), (amb, .inl (G.2.1 1, 12288, .inl fmb))] := hD
        refine lv_topi (fun x_6 ex_6 => ?_)
        replace hw := hw x_6 ex_6
        refine lv_istore (lv' := [(6, .int x_6), (5, .int x_2), (0, .ref h), (1, .int k), (2, .int op), (3, .int ad), (4, .int off)]) hx hb d_Pm_load_65 hl (by decide) rfl (fun ls hl => ?_)
        refine lv_lconst (v := 0) hx hb d_Pm_load_67 (by decide) ?_
        refine lv_lstore (lv' := [(7, .long 0), (6, .int x_6), (5, .int x_2), (0, .ref h), (1, .int k), (2, .int op), (3, .int ad), (4, .int off)]) hx hb d_Pm_load_68 hl (by decide) rfl (fun ls hl => ?_)
        refine lv_iconst (v := 0) hx hb d_Pm_load_70 (by decide) ?_
        refine lv_istore (lv' := [(9, .int 0), (7, .long 0), (6, .int x_6), (5, .int x_2), (0, .ref h), (1, .int k), (2, .int op), (3, .int ad), (4, .int off)]) hx hb d_Pm_load_71 hl (by decide) rfl (fun ls hl => ?_)
        obtain ⟨n9, hw⟩ := hw
        exact l_Pm_load_73 G h m0 aml amb t0 atl att ate b0 asb r0 asr m1 m2 m3 A post postx op x_2 x_6 0 mC mU mS mL mD fmb hx hb hr hml hown hlocks hcx hA hst hnt n9 0 0 hw _ _ hP hD hS ls (lv_sub hl [4, 6, 3, 2, 1, 0] rfl)
    · replace hw := hw.2 c_4
      exact tr_throw hx hb hst hown (by decide +kernel) (by decide +kernel) (hcx.imp (fun V h => tw_ill_108 V h)) hS (hl.1.trans hml.symm) d_Pm_load_32 d_Pm_load_35 d_Pm_load_36 d_Pm_load_38 d_Pm_load_41 (hnt _) (Nat.le_of_ble_eq_true rfl) (Nat.le_of_ble_eq_true rfl) (Nat.le_of_ble_eq_true rfl) (Nat.le_of_ble_eq_true rfl) hlocks (fun t h1 h2 => ⟨0, hw, hP.kept fun k q hq => h2 q.1 (hP k q hq).lt⟩) hA (Nat.le_of_ble_eq_true rfl) (Nat.le_of_ble_eq_true rfl)
def wp_Pm_store (post : (Int32 × (Nat → Int32)) → Prop) (postx : String → (Int32 × (Nat → Int32)) → Prop) (trp : Int32) (mC : Int32) (mU : Int32) (mS : Nat → Int32) (mL : Nat → Int32) (mD : Nat → Int32) (fmb : Nat → Int32) (k : Int32) (op : Int32) (ad : Int32) (off : Int32) (vl : Int64) : Prop := (0 ≤ (54 : Int32).toInt) ∧ (∀ x_2 : Int32, x_2 = w_of op 54 9 wStore → (((ly_has mC k = 0 → (postx E_ill (0, fmb))) ∧ (¬ ly_has mC k = 0 → (((¬ x_2 = 0 → ((mC.toInt ≤ 6) ∧ (((lg_cmp (((u32 ad) + (u32 off)) + x_2.toInt64) (ly_ln mC k mL).toInt64 ≤ 0 → (∀ x_6 : Int32, x_6 = ly_st mC k mS + ((u32 ad) + (u32 off)).toInt32 → ((¬ x_6 < 0) ∧ ((¬ x_2 < 0) ∧ ((x_6.toNatClampNeg + x_2.toNatClampNeg ≤ 12288) ∧ ((12288 < 2147483648) ∧ (∀ u_11 : Nat → Int32, u_11 = put_b fmb x_6.toNatClampNeg x_2.toNatClampNeg vl → (post (0, u_11))))))))) ∧ (¬ lg_cmp (((u32 ad) + (u32 off)) + x_2.toInt64) (ly_ln mC k mL).toInt64 ≤ 0 → (postx E_uns (4, fmb))))))) ∧ (x_2 = 0 → (postx E_ill (0, fmb)))))))))
set_option maxHeartbeats 4000000 in
set_option maxRecDepth 100000 in
theorem t_Pm_store (l : Launch) (hst : l.stackTraces = false) (G : cxT) (h : Nat) (m0 : Nat) (aml : Nat) (amb : Nat) (t0 : Nat) (atl : Nat) (att : Nat) (ate : Nat) (b0 : Nat) (asb : Nat) (r0 : Nat) (asr : Nat) (m1 : Nat) (m2 : Nat) (m3 : Nat) (trp : Int32) (mC : Int32) (mU : Int32) (mS : Nat → Int32) (mL : Nat → Int32) (mD : Nat → Int32) (fmb : Nat → Int32) (k : Int32) (op : Int32) (ad : Int32) (off : Int32) (vl : Int64) (sz : Nat) (post : (Int32 × (Nat → Int32)) → Prop) (postx : String → (Int32 × (Nat → Int32)) → Prop) (hw : wp_Pm_store post postx trp mC mU mS mL mD fmb k op ad off vl) : tr_Met l y_Pm_store [.code y_Pm_store b_Pm_store 9 none] ({ frames := 8, cells := 1, slots := 6, locals := 140 } : Room) (cm G [.ref h, .int k, .int op, .int ad, .int off, .long vl] [(h, .inr (1, [.ref m0, .ref aml, .ref amb, .ref t0, .ref atl, .ref att, .ref ate, .ref b0, .ref asb, .ref r0, .ref asr, .int trp])), (m0, .inr (0, [.int 12288, .ref m1, .ref m2, .ref m3, .int mC, .int mU])), (m1, .inl (G.2.1 0, 6, .inl mS)), (m2, .inl (G.2.1 0, 6, .inl mL)), (m3, .inl (G.2.1 2, 6, .inl mD)), (amb, .inl (G.2.1 1, 12288, .inl fmb))] sz) (va_Qv post (fun u t => va_P G.1 vwC [(h, .inr (1, [.ref m0, .ref aml, .ref amb, .ref t0, .ref atl, .ref att, .ref ate, .ref b0, .ref asb, .ref r0, .ref asr, .int u.1])), (m0, .inr (0, [.int 12288, .ref m1, .ref m2, .ref m3, .int mC, .int mU])), (m1, .inl (G.2.1 0, 6, .inl mS)), (m2, .inl (G.2.1 0, 6, .inl mL)), (m3, .inl (G.2.1 2, 6, .inl mD)), (amb, .inl (G.2.1 1, 12288, .inl u.2))] t.heap) (va_A [(h, .inr (1, [.ref m0, .ref aml, .ref amb, .ref t0, .ref atl, .ref att, .ref ate, .ref b0, .ref asb, .ref r0, .ref asr, .int trp])), (m0, .inr (0, [.int 12288, .ref m1, .ref m2, .ref m3, .int mC, .int mU])), (m1, .inl (G.2.1 0, 6, .inl mS)), (m2, .inl (G.2.1 0, 6, .inl mL)), (m3, .inl (G.2.1 2, 6, .inl mD)), (amb, .inl (G.2.1 1, 12288, .inl fmb))] sz)) (fun E t => ∃ u : Int32 × (Nat → Int32), postx E u ∧ va_P G.1 vwC [(h, .inr (1, [.ref m0, .ref aml, .ref amb, .ref t0, .ref atl, .ref att, .ref ate, .ref b0, .ref asb, .ref r0, .ref asr, .int u.1])), (m0, .inr (0, [.int 12288, .ref m1, .ref m2, .ref m3, .int mC, .int mU])), (m1, .inl (G.2.1 0, 6, .inl mS)), (m2, .inl (G.2.1 0, 6, .inl mL)), (m3, .inl (G.2.1 2, 6, .inl mD)), (amb, .inl (G.2.1 1, 12288, .inl u.2))] t.heap) (va_A [(h, .inr (1, [.ref m0, .ref aml, .ref amb, .ref t0, .ref atl, .ref att, .ref ate, .ref b0, .ref asb, .ref r0, .ref asr, .int trp])), (m0, .inr (0, [.int 12288, .ref m1, .ref m2, .ref m3, .int mC, .int mU])), (m1, .inl (G.2.1 0, 6, .inl mS)), (m2, .inl (G.2.1 0, 6, .inl mL)), (m3, .inl (G.2.1 2, 6, .inl mD)), (amb, .inl (G.2.1 1, 12288, .inl fmb))] sz) 1 6 := by
  refine tr_ofW (cc := b_Pm_store) (maxL := 9) (ret := none) (by decide +kernel) rfl ?_
  intro p e s m args below meth c s₁ B hml hv
  obtain ⟨rfl, hsz, hcx, hP, hD0⟩ := hv
  have hx := B.exec
  have hb := B.bytes
  have hr := B.returns
  have hlocks := B.notSynchronized
  have hown : s.vm.findClass R_Pm = some m.cls := findClass_of_methodNamed B.named
  have hnt := tr_nt (ws := [.code y_Pm_store b_Pm_store 9 none]) (rm := ({ frames := 8, cells := 1, slots := 6, locals := 140 } : Room)) B rfl
  subst hsz
  have hD := hD0.self (sz := s.heap.size)
  generalize hAe : va_A [(h, .inr (1, [.ref m0, .ref aml, .ref amb, .ref t0, .ref atl, .ref att, .ref ate, .ref b0, .ref asb, .ref r0, .ref asr, .int trp])), (m0, .inr (0, [.int 12288, .ref m1, .ref m2, .ref m3, .int mC, .int mU])), (m1, .inl (G.2.1 0, 6, .inl mS)), (m2, .inl (G.2.1 0, 6, .inl mL)), (m3, .inl (G.2.1 2, 6, .inl mD)), (amb, .inl (G.2.1 1, 12288, .inl fmb))] s.heap.size = A at hD hcx ⊢
  have hA : ∀ q : Nat, s.heap.size ≤ q → A q := fun q h => by rw [← hAe]; exact Or.inr h
  have hS : va_S A s.heap s.heap [] := va_S.rf
  have hts := hcx.now.1 [.ref h, .int k, .int op, .int ad, .int off, .long vl].toArray
  have hK := hcx.now.2.1
  have hl := lv_entry ([.ref h, .int k, .int op, .int ad, .int off, .long vl]) (n := 9) (Nat.le_of_ble_eq_true rfl)
  rw [lg_entry_eq]
  generalize (lg_sl ([.ref h, .int k, .int op, .int ad, .int off, .long vl]) ++ List.replicate (9 - (lg_sl ([.ref h, .int k, .int op, .int ad, .int off, .long vl])).length) Slot.unset).toArray = ls at hl ⊢
  have hl : lv_has ls 9 [(0, .ref h), (1, .int k), (2, .int op), (3, .int ad), (4, .int off), (5, .long vl)] := hl
  unfold wp_Pm_store at hw
  refine lv_aload_n hx hb d_Pm_store_0 rfl (lv_at hl 0 rfl) ?_
  refine lv_iconst (v := 0) hx hb d_Pm_store_1 (by decide) ?_
  refine va_put (D := G.1) (ci := 1) (v := .int 0) (ty := (.int)) (C := R_Pm) (T := T_Pm) (N := 12) hx hb hts in_Pm ty_Pm tk_Pm nm_Pm hown hK hP hD hS 0 rfl rfl 11 (by decide) (hts _ fl_Pm_50) (fun _ h9 => h9) rfl (by decide +kernel) rfl rfl (Nat.le_of_ble_eq_true rfl) d_Pm_store_2 (fun H locs hP hD hS => ?_)
  have hP : va_P G.1 vwC [(h, .inr (1, [.ref m0, .ref aml, .ref amb, .ref t0, .ref atl, .ref att, .ref ate, .ref b0, .ref asb, .ref r0, .ref asr, .int 0])), (m0, .inr (0, [.int 12288, .ref m1, .ref m2, .ref m3, .int mC, .int mU])), (m1, .inl (G.2.1 0, 6, .inl mS)), (m2, .inl (G.2.1 0, 6, .inl mL)), (m3, .inl (G.2.1 2, 6, .inl mD)), (amb, .inl (G.2.1 1, 12288, .inl fmb))] H := hP
  have hD : va_D A [(h, .inr (1, [.ref m0, .ref aml, .ref amb, .ref t0, .ref atl, .ref att, .ref ate, .ref b0, .ref asb, .ref r0, .ref asr, .int 0])), (m0, .inr (0, [.int 12288, .ref m1, .ref m2, .ref m3, .int mC, .int mU])), (m1, .inl (G.2.1 0, 6, .inl mS)), (m2, .inl (G.2.1 0, 6, .inl mL)), (m3, .inl (G.2.1 2, 6, .inl mD)), (amb, .inl (G.2.1 1, 12288, .inl fmb))] := hD
  refine lv_iload_n hx hb d_Pm_store_5 rfl (lv_at hl 2 rfl) ?_
  refine lv_bipush (v := 54) hx hb d_Pm_store_6 (by decide) ?_
  refine va_gets (v := .ref (G.2.2 1)) hx hb hcx.now.2.2.2.2.2.1.1 hS hown (hts _ fl_Pm_123) (fun _ h9 => h9) d_Pm_store_8 ?_
  obtain ⟨h_1, hw⟩ := hw
  have hPc := hP.sub (ws' := []) [] rfl
  refine pu_i (va_runS (As := [.int op, .int 54, .ref (G.2.2 1)]) (rest := []) ⟨hx, hb, hml, hown, hts⟩ (c_Pm_widthOf_1 l G op 54 h_1) (va_cwS 3 hts (gi_S ml_Pm_102 sm_Pm_widthOf ini_Pm co_Pm_widthOf) rfl rfl rfl (by decide +kernel) ⟨Nat.le_of_ble_eq_true rfl, Nat.le_of_ble_eq_true rfl⟩) ⟨cp_blind, cp_pre hcx hS hPc⟩ rfl rfl hl.1 rfl (lv_room (Nat.le_of_ble_eq_true rfl)) d_Pm_store_11 ⟨Nat.le_of_ble_eq_true rfl, Nat.le_of_ble_eq_true rfl⟩) hS hP (fun H locs hP hS => ?_)
  refine lv_topi (fun x_2 ex_2 => ?_)
  replace hw := hw x_2 ex_2
  refine lv_istore (lv' := [(7, .int x_2), (0, .ref h), (1, .int k), (2, .int op), (3, .int ad), (4, .int off), (5, .long vl)]) hx hb d_Pm_store_14 hl (by decide) rfl (fun ls hl => ?_)
  refine lv_aload_n hx hb d_Pm_store_16 rfl (lv_at hl 1 rfl) ?_
  refine va_get (D := G.1) (ci := 1) (v := .ref m0) (C := R_Pm) (T := T_Pm) (N := 12) hx hb hts in_Pm hown hK hP 0 rfl rfl 0 (by decide) (hts _ fl_Pm_14) (fun _ h9 => h9) rfl d_Pm_store_17 ?_
  refine lv_iload_n hx hb d_Pm_store_20 rfl (lv_at hl 2 rfl) ?_
  have hPc := hP.sub (ws' := [(m0, .inr (0, [.int 12288, .ref m1, .ref m2, .ref m3, .int mC, .int mU])), (m1, .inl (G.2.1 0, 6, .inl mS)), (m2, .inl (G.2.1 0, 6, .inl mL)), (m3, .inl (G.2.1 2, 6, .inl mD))]) [1, 2, 3, 4] rfl
  refine pu_i (va_runV (As := [.int k]) (rest := []) ⟨hx, hb, hml, hown, hts⟩ (c_Ly_has l G m0 m1 m2 m3 6 12288 mC mU mS mL mD k) (cwV 1 hts (gi_V ml_Pm_67 im_Ly_has se_Ly_has ini_Ly co_Ly_has) rfl rfl rfl (by decide +kernel) ⟨Nat.le_of_ble_eq_true rfl, Nat.le_of_ble_eq_true rfl⟩) ⟨cp_blind, va_recv hK hPc (ci := 0) (q0 := 0) rfl rfl, cp_pre hcx hS hPc⟩ rfl rfl hl.1 rfl (lv_room (Nat.le_of_ble_eq_true rfl)) d_Pm_store_21 ⟨Nat.le_of_ble_eq_true rfl, Nat.le_of_ble_eq_true rfl⟩) hS hP (fun H locs hP hS => ?_)
  refine lv_if_eq (tgt := 32) hx hb d_Pm_store_24 (by decide) (fun c_3 => ?_) (fun c_3 => ?_)
  · replace hw := hw.1 c_3
    exact tr_throw hx hb hst hown (by decide +kernel) (by decide +kernel) (hcx.imp (fun V h => tw_ill_126 V h)) hS (hl.1.trans hml.symm) d_Pm_store_32 d_Pm_store_35 d_Pm_store_36 d_Pm_store_38 d_Pm_store_41 (hnt _) (Nat.le_of_ble_eq_true rfl) (Nat.le_of_ble_eq_true rfl) (Nat.le_of_ble_eq_true rfl) (Nat.le_of_ble_eq_true rfl) hlocks (fun t h1 h2 => ⟨(0, fmb), hw, hP.kept fun k q hq => h2 q.1 (hP k q hq).lt⟩) hA (Nat.le_of_ble_eq_true rfl) (Nat.le_of_ble_eq_true rfl)
  · replace hw := hw.2 c_3
    refine lv_iload hx hb d_Pm_store_27 (lv_at hl 0 rfl) ?_
    refine lv_if_ne (tgt := 42) hx hb d_Pm_store_29 (by decide) (fun c_4 => ?_) (fun c_4 => ?_)
    · replace hw := hw.1 c_4
      refine lv_aload_n hx hb d_Pm_store_42 rfl (lv_at hl 1 rfl) ?_
      refine lv_aload_n hx hb d_Pm_store_43 rfl (lv_at hl 1 rfl) ?_
      refine va_get (D := G.1) (ci := 1) (v := .ref m0) (C := R_Pm) (T := T_Pm) (N := 12) hx hb hts in_Pm hown hK hP 0 rfl rfl 0 (by decide) (hts _ fl_Pm_14) (fun _ h9 => h9) rfl d_Pm_store_44 ?_
      refine lv_iload_n hx hb d_Pm_store_47 rfl (lv_at hl 2 rfl) ?_
      refine lv_iload_n hx hb d_Pm_store_48 rfl (lv_at hl 4 rfl) ?_
      have hPc := hP.sub (ws' := []) [] rfl
      refine pu_l (va_runS (As := [.int ad]) (rest := [.int k, .ref m0, .ref h]) ⟨hx, hb, hml, hown, hts⟩ (c_Pm_unsigned l G ad) (va_cwS 1 hts (gi_S ml_Pm_74 sm_Pm_unsigned ini_Pm co_Pm_unsigned) rfl rfl rfl (by decide +kernel) ⟨Nat.le_of_ble_eq_true rfl, Nat.le_of_ble_eq_true rfl⟩) ⟨cp_blind, cp_pre hcx hS hPc⟩ rfl rfl hl.1 rfl (lv_room (Nat.le_of_ble_eq_true rfl)) d_Pm_store_49 ⟨Nat.le_of_ble_eq_true rfl, Nat.le_of_ble_eq_true rfl⟩) hS hP (fun H locs hP hS => ?_)
      refine lv_iload hx hb d_Pm_store_52 (lv_at hl 5 rfl) ?_
      have hPc := hP.sub (ws' := []) [] rfl
      refine pu_l (va_runS (As := [.int off]) (rest := [.long (u32 ad), .int k, .ref m0, .ref h]) ⟨hx, hb, hml, hown, hts⟩ (c_Pm_unsigned l G off) (va_cwS 1 hts (gi_S ml_Pm_74 sm_Pm_unsigned ini_Pm co_Pm_unsigned) rfl rfl rfl (by decide +kernel) ⟨Nat.le_of_ble_eq_true rfl, Nat.le_of_ble_eq_true rfl⟩) ⟨cp_blind, cp_pre hcx hS hPc⟩ rfl rfl hl.1 rfl (lv_room (Nat.le_of_ble_eq_true rfl)) d_Pm_store_54 ⟨Nat.le_of_ble_eq_true rfl, Nat.le_of_ble_eq_true rfl⟩) hS hP (fun H locs hP hS => ?_)
      refine lv_ladd hx hb d_Pm_store_57 ?_
      refine lv_iload hx hb d_Pm_store_58 (lv_at hl 0 rfl) ?_
      refine lv_i2l (v := x_2.toInt64) hx hb d_Pm_store_60 rfl ?_
      refine lv_iconst (v := 4) hx hb d_Pm_store_61 (by decide) ?_
      obtain ⟨h_5, hw⟩ := hw
      have hPc := hP.sub (ws' := [(h, .inr (1, [.ref m0, .ref aml, .ref amb, .ref t0, .ref atl, .ref att, .ref ate, .ref b0, .ref asb, .ref r0, .ref asr, .int 0])), (m0, .inr (0, [.int 12288, .ref m1, .ref m2, .ref m3, .int mC, .int mU])), (m1, .inl (G.2.1 0, 6, .inl mS)), (m2, .inl (G.2.1 0, 6, .inl mL)), (m3, .inl (G.2.1 2, 6, .inl mD))]) [0, 1, 2, 3, 4] rfl
      have hDc := hD.sub (ws' := [(h, .inr (1, [.ref m0, .ref aml, .ref amb, .ref t0, .ref atl, .ref att, .ref ate, .ref b0, .ref asb, .ref r0, .ref asr, .int 0])), (m0, .inr (0, [.int 12288, .ref m1, .ref m2, .ref m3, .int mC, .int mU])), (m1, .inl (G.2.1 0, 6, .inl mS)), (m2, .inl (G.2.1 0, 6, .inl mL)), (m3, .inl (G.2.1 2, 6, .inl mD))]) [0, 1, 2, 3, 4] (by decide) rfl
      have hFc := va_free (wc := [(h, .inr (1, [.ref m0, .ref aml, .ref amb, .ref t0, .ref atl, .ref att, .ref ate, .ref b0, .ref asb, .ref r0, .ref asr, .int 0])), (m0, .inr (0, [.int 12288, .ref m1, .ref m2, .ref m3, .int mC, .int mU])), (m1, .inl (G.2.1 0, 6, .inl mS)), (m2, .inl (G.2.1 0, 6, .inl mL)), (m3, .inl (G.2.1 2, 6, .inl mD))]) hD hS hA [0, 1, 2, 3, 4] rfl
      refine tx_i (tr_runV (As := [.ref m0, .int k, .long ((u32 ad) + (u32 off)), .long x_2.toInt64, .int 4]) (rest := []) ⟨hx, hb, hml, hown, hts⟩ (c_Pm_placeOf l hst G h m0 aml amb t0 atl att ate b0 asb r0 asr m0 m1 m2 m3 6 0 12288 mC mU mS mL mD k ((u32 ad) + (u32 off)) x_2.toInt64 4 _ h_5) (cwV 5 hts (gi_V ml_Pm_113 im_Pm_placeOf se_Pm_placeOf ini_Pm co_Pm_placeOf) rfl rfl rfl (by decide +kernel) ⟨Nat.le_of_ble_eq_true rfl, Nat.le_of_ble_eq_true rfl⟩) ⟨cm_blind, va_recv hK hPc (ci := 1) (q0 := 0) rfl rfl, cm_pre hcx hS hPc hDc hFc⟩ rfl rfl hl.1 rfl (lv_room (Nat.le_of_ble_eq_true rfl)) d_Pm_store_62 ⟨Nat.le_of_ble_eq_true rfl, Nat.le_of_ble_eq_true rfl⟩) hS hP hD hA [0, 1, 2, 3, 4] rfl (fun _ => rfl) (fun _ => rfl) (fun E9 u9 hp q9 ce9 H locs hP hD hS h91 h92 h93 => ?_) (fun r9 u9 H locs hp hP hD hS => ?_)
      · obtain ⟨hN, rfl, rfl⟩ := hp
        exact tr_pass (hnt _) hlocks h91 h92 h93 (fun t ht => ⟨(4, fmb), hw.2 hN, by have h9 := hP; rw [← ht] at h9; exact h9⟩) hS (Nat.le_of_ble_eq_true rfl) (Nat.le_of_ble_eq_true rfl)
      · obtain ⟨hN, e91, e92⟩ := hp; replace e91 := e91.symm; replace e92 := e92.symm; subst e91; subst e92
        replace hw := hw.1 hN
        have hP : va_P G.1 vwC [(h, .inr (1, [.ref m0, .ref aml, .ref amb, .ref t0, .ref atl, .ref att, .ref ate, .ref b0, .ref asb, .ref r0, .ref asr, .int 0])), (m0, .inr (0, [.int 12288, .ref m1, .ref m2, .ref m3, .int mC, .int mU])), (m1, .inl (G.2.1 0, 6, .inl mS)), (m2, .inl (G.2.1 0, 6, .inl mL)), (m3, .inl (G.2.1 2, 6, .inl mD)), (amb, .inl (G.2.1 1, 12288, .inl fmb))] H := hP
        have hD : va_D A [(h, .inr (1, [.ref m0, .ref aml, .ref amb, .ref t0, .ref atl, .ref att, .ref ate, .ref b0, .ref asb, .ref r0, .ref asr, .int 0])), (m0, .inr (0, [.int 12288, .ref m1, .ref m2, .ref m3, .int mC, .int mU])), (m1, .inl (G.2.1 0, 6, .inl mS)), (m2, .inl (G.2.1 0, 6, .inl mL)), (m3, .inl (G.2.1 2, 6, .inl mD)), (amb, .inl (G.2.1 1, 12288, .inl fmb))] := hD
        refine lv_topi (fun x_6 ex_6 => ?_)
        replace hw := hw x_6 ex_6
        refine lv_istore (lv' := [(8, .int x_6), (7, .int x_2), (0, .ref h), (1, .int k), (2, .int op), (3, .int ad), (4, .int off), (5, .long vl)]) hx hb d_Pm_store_65 hl (by decide) rfl (fun ls hl => ?_)
        refine lv_lload hx hb d_Pm_store_67 (lv_at hl 7 rfl) ?_
        refine lv_iload hx hb d_Pm_store_69 (lv_at hl 1 rfl) ?_
        refine lv_aload_n hx hb d_Pm_store_71 rfl (lv_at hl 2 rfl) ?_
        refine va_get (D := G.1) (ci := 1) (v := .ref amb) (C := R_Pm) (T := T_Pm) (N := 12) hx hb hts in_Pm hown hK hP 0 rfl rfl 2 (by decide) (hts _ fl_Pm_22) (fun _ h9 => h9) rfl d_Pm_store_72 ?_
        refine lv_iload hx hb d_Pm_store_75 (lv_at hl 0 rfl) ?_
        obtain ⟨h_7, hw⟩ := hw
        obtain ⟨h_8, hw⟩ := hw
        obtain ⟨h_9, hw⟩ := hw
        obtain ⟨h_10, hw⟩ := hw
        have hPc := hP.sub (ws' := [(amb, .inl (G.2.1 1, 12288, .inl fmb))]) [5] rfl
        have hDc := hD.sub (ws' := [(amb, .inl (G.2.1 1, 12288, .inl fmb))]) [5] (by decide) rfl
        have hFc := va_free (wc := [(amb, .inl (G.2.1 1, 12288, .inl fmb))]) hD hS hA [5] rfl
        refine ip_v (va_runS (As := [.long vl, .int x_2, .ref amb, .int x_6]) (rest := []) ⟨hx, hb, hml, hown, hts⟩ (c_Pm_putLowestBytes l G amb 12288 fmb vl x_2 x_6 _ h_7 h_8 h_9 h_10) (va_cwS 4 hts (gi_S ml_Pm_128 sm_Pm_putLowestBytes ini_Pm co_Pm_putLowestBytes) rfl rfl rfl (by decide +kernel) ⟨Nat.le_of_ble_eq_true rfl, Nat.le_of_ble_eq_true rfl⟩) ⟨cm_blind, cm_pre hcx hS hPc hDc hFc⟩ rfl rfl hl.1 rfl (lv_room (Nat.le_of_ble_eq_true rfl)) d_Pm_store_77 ⟨Nat.le_of_ble_eq_true rfl, Nat.le_of_ble_eq_true rfl⟩) hS hP hD hA [5] rfl (fun _ => rfl) (fun u9 H locs hp hP hD hS => ?_)
        replace hp := hp.symm; subst hp
        obtain ⟨u_11, eu_11⟩ : ∃ z : Nat → Int32, z = put_b fmb x_6.toNatClampNeg x_2.toNatClampNeg vl := ⟨_, rfl⟩
        replace hw := hw u_11 eu_11
        have hP : va_P G.1 vwC [(h, .inr (1, [.ref m0, .ref aml, .ref amb, .ref t0, .ref atl, .ref att, .ref ate, .ref b0, .ref asb, .ref r0, .ref asr, .int 0])), (m0, .inr (0, [.int 12288, .ref m1, .ref m2, .ref m3, .int mC, .int mU])), (m1, .inl (G.2.1 0, 6, .inl mS)), (m2, .inl (G.2.1 0, 6, .inl mL)), (m3, .inl (G.2.1 2, 6, .inl mD)), (amb, .inl (G.2.1 1, 12288, .inl (put_b fmb x_6.toNatClampNeg x_2.toNatClampNeg vl)))] H := hP
        have hD : va_D A [(h, .inr (1, [.ref m0, .ref aml, .ref amb, .ref t0, .ref atl, .ref att, .ref ate, .ref b0, .ref asb, .ref r0, .ref asr, .int 0])), (m0, .inr (0, [.int 12288, .ref m1, .ref m2, .ref m3, .int mC, .int mU])), (m1, .inl (G.2.1 0, 6, .inl mS)), (m2, .inl (G.2.1 0, 6, .inl mL)), (m3, .inl (G.2.1 2, 6, .inl mD)), (amb, .inl (G.2.1 1, 12288, .inl (put_b fmb x_6.toNatClampNeg x_2.toNatClampNeg vl)))] := hD
        have hP : va_P G.1 vwC [(h, .inr (1, [.ref m0, .ref aml, .ref amb, .ref t0, .ref atl, .ref att, .ref ate, .ref b0, .ref asb, .ref r0, .ref asr, .int 0])), (m0, .inr (0, [.int 12288, .ref m1, .ref m2, .ref m3, .int mC, .int mU])), (m1, .inl (G.2.1 0, 6, .inl mS)), (m2, .inl (G.2.1 0, 6, .inl mL)), (m3, .inl (G.2.1 2, 6, .inl mD)), (amb, .inl (G.2.1 1, 12288, .inl u_11))] H := by rw [eu_11]; exact hP
        have hD : va_D A [(h, .inr (1, [.ref m0, .ref aml, .ref amb, .ref t0, .ref atl, .ref att, .ref ate, .ref b0, .ref asb, .ref r0, .ref asr, .int 0])), (m0, .inr (0, [.int 12288, .ref m1, .ref m2, .ref m3, .int mC, .int mU])), (m1, .inl (G.2.1 0, 6, .inl mS)), (m2, .inl (G.2.1 0, 6, .inl mL)), (m3, .inl (G.2.1 2, 6, .inl mD)), (amb, .inl (G.2.1 1, 12288, .inl u_11))] := by rw [eu_11]; exact hD
        exact tr_ret (W.vret hx hb hr (fun t ht hW => ⟨⟨(0, u_11), rfl, hw, by have h9 := hP; rw [← ht] at h9; exact h9⟩, hS.F ht⟩) hS.2.2 d_Pm_store_80)
    · replace hw := hw.2 c_4
      exact tr_throw hx hb hst hown (by decide +kernel) (by decide +kernel) (hcx.imp (fun V h => tw_ill_126 V h)) hS (hl.1.trans hml.symm) d_Pm_store_32 d_Pm_store_35 d_Pm_store_36 d_Pm_store_38 d_Pm_store_41 (hnt _) (Nat.le_of_ble_eq_true rfl) (Nat.le_of_ble_eq_true rfl) (Nat.le_of_ble_eq_true rfl) (Nat.le_of_ble_eq_true rfl) hlocks (fun t h1 h2 => ⟨(0, fmb), hw, hP.kept fun k q hq => h2 q.1 (hP k q hq).lt⟩) hA (Nat.le_of_ble_eq_true rfl) (Nat.le_of_ble_eq_true rfl)
def wp_Pm_fill (post : (Int32 × (Nat → Int32)) → Prop) (postx : String → (Int32 × (Nat → Int32)) → Prop) (trp : Int32) (mC : Int32) (mU : Int32) (mS : Nat → Int32) (mL : Nat → Int32) (mD : Nat → Int32) (fmb : Nat → Int32) (k : Int32) (to : Int32) (vl : Int32) (cn : Int32) : Prop := ((¬ ly_has mC k = 0 → ((mC.toInt ≤ 6) ∧ (((lg_cmp ((u32 to) + (u32 cn)) (ly_ln mC k mL).toInt64 ≤ 0 → (∀ x_3 : Int32, x_3 = ly_st mC k mS + (u32 to).toInt32 → ((¬ x_3 < 0) ∧ ((x_3 ≤ (x_3 + cn)) ∧ (((x_3 + cn) ≤ nI 12288) ∧ ((12288 < 2147483648) ∧ ((vp_nar .byte vl.toInt8.toInt32 = vl.toInt8.toInt32) ∧ (∀ u_9 : Nat → Int32, u_9 = ar_fill fmb x_3.toNatClampNeg (x_3 + cn).toNatClampNeg vl.toInt8.toInt32 → (post (0, u_9)))))))))) ∧ (¬ lg_cmp ((u32 to) + (u32 cn)) (ly_ln mC k mL).toInt64 ≤ 0 → (postx E_uns (4, fmb))))))) ∧ (ly_has mC k = 0 → (postx E_ill (0, fmb))))
set_option maxHeartbeats 4000000 in
set_option maxRecDepth 100000 in
theorem t_Pm_fill (l : Launch) (hst : l.stackTraces = false) (G : cxT) (h : Nat) (m0 : Nat) (aml : Nat) (amb : Nat) (t0 : Nat) (atl : Nat) (att : Nat) (ate : Nat) (b0 : Nat) (asb : Nat) (r0 : Nat) (asr : Nat) (m1 : Nat) (m2 : Nat) (m3 : Nat) (trp : Int32) (mC : Int32) (mU : Int32) (mS : Nat → Int32) (mL : Nat → Int32) (mD : Nat → Int32) (fmb : Nat → Int32) (k : Int32) (to : Int32) (vl : Int32) (cn : Int32) (sz : Nat) (post : (Int32 × (Nat → Int32)) → Prop) (postx : String → (Int32 × (Nat → Int32)) → Prop) (hw : wp_Pm_fill post postx trp mC mU mS mL mD fmb k to vl cn) : tr_Met l y_Pm_fill [.code y_Pm_fill b_Pm_fill 6 none] ({ frames := 8, cells := 1, slots := 6, locals := 140 } : Room) (cm G [.ref h, .int k, .int to, .int vl, .int cn] [(h, .inr (1, [.ref m0, .ref aml, .ref amb, .ref t0, .ref atl, .ref att, .ref ate, .ref b0, .ref asb, .ref r0, .ref asr, .int trp])), (m0, .inr (0, [.int 12288, .ref m1, .ref m2, .ref m3, .int mC, .int mU])), (m1, .inl (G.2.1 0, 6, .inl mS)), (m2, .inl (G.2.1 0, 6, .inl mL)), (m3, .inl (G.2.1 2, 6, .inl mD)), (amb, .inl (G.2.1 1, 12288, .inl fmb))] sz) (va_Qv post (fun u t => va_P G.1 vwC [(h, .inr (1, [.ref m0, .ref aml, .ref amb, .ref t0, .ref atl, .ref att, .ref ate, .ref b0, .ref asb, .ref r0, .ref asr, .int u.1])), (m0, .inr (0, [.int 12288, .ref m1, .ref m2, .ref m3, .int mC, .int mU])), (m1, .inl (G.2.1 0, 6, .inl mS)), (m2, .inl (G.2.1 0, 6, .inl mL)), (m3, .inl (G.2.1 2, 6, .inl mD)), (amb, .inl (G.2.1 1, 12288, .inl u.2))] t.heap) (va_A [(h, .inr (1, [.ref m0, .ref aml, .ref amb, .ref t0, .ref atl, .ref att, .ref ate, .ref b0, .ref asb, .ref r0, .ref asr, .int trp])), (m0, .inr (0, [.int 12288, .ref m1, .ref m2, .ref m3, .int mC, .int mU])), (m1, .inl (G.2.1 0, 6, .inl mS)), (m2, .inl (G.2.1 0, 6, .inl mL)), (m3, .inl (G.2.1 2, 6, .inl mD)), (amb, .inl (G.2.1 1, 12288, .inl fmb))] sz)) (fun E t => ∃ u : Int32 × (Nat → Int32), postx E u ∧ va_P G.1 vwC [(h, .inr (1, [.ref m0, .ref aml, .ref amb, .ref t0, .ref atl, .ref att, .ref ate, .ref b0, .ref asb, .ref r0, .ref asr, .int u.1])), (m0, .inr (0, [.int 12288, .ref m1, .ref m2, .ref m3, .int mC, .int mU])), (m1, .inl (G.2.1 0, 6, .inl mS)), (m2, .inl (G.2.1 0, 6, .inl mL)), (m3, .inl (G.2.1 2, 6, .inl mD)), (amb, .inl (G.2.1 1, 12288, .inl u.2))] t.heap) (va_A [(h, .inr (1, [.ref m0, .ref aml, .ref amb, .ref t0, .ref atl, .ref att, .ref ate, .ref b0, .ref asb, .ref r0, .ref asr, .int trp])), (m0, .inr (0, [.int 12288, .ref m1, .ref m2, .ref m3, .int mC, .int mU])), (m1, .inl (G.2.1 0, 6, .inl mS)), (m2, .inl (G.2.1 0, 6, .inl mL)), (m3, .inl (G.2.1 2, 6, .inl mD)), (amb, .inl (G.2.1 1, 12288, .inl fmb))] sz) 1 6 := by
  refine tr_ofW (cc := b_Pm_fill) (maxL := 6) (ret := none) (by decide +kernel) rfl ?_
  intro p e s m args below meth c s₁ B hml hv
  obtain ⟨rfl, hsz, hcx, hP, hD0⟩ := hv
  have hx := B.exec
  have hb := B.bytes
  have hr := B.returns
  have hlocks := B.notSynchronized
  have hown : s.vm.findClass R_Pm = some m.cls := findClass_of_methodNamed B.named
  have hnt := tr_nt (ws := [.code y_Pm_fill b_Pm_fill 6 none]) (rm := ({ frames := 8, cells := 1, slots := 6, locals := 140 } : Room)) B rfl
  subst hsz
  have hD := hD0.self (sz := s.heap.size)
  generalize hAe : va_A [(h, .inr (1, [.ref m0, .ref aml, .ref amb, .ref t0, .ref atl, .ref att, .ref ate, .ref b0, .ref asb, .ref r0, .ref asr, .int trp])), (m0, .inr (0, [.int 12288, .ref m1, .ref m2, .ref m3, .int mC, .int mU])), (m1, .inl (G.2.1 0, 6, .inl mS)), (m2, .inl (G.2.1 0, 6, .inl mL)), (m3, .inl (G.2.1 2, 6, .inl mD)), (amb, .inl (G.2.1 1, 12288, .inl fmb))] s.heap.size = A at hD hcx ⊢
  have hA : ∀ q : Nat, s.heap.size ≤ q → A q := fun q h => by rw [← hAe]; exact Or.inr h
  have hS : va_S A s.heap s.heap [] := va_S.rf
  have hts := hcx.now.1 [.ref h, .int k, .int to, .int vl, .int cn].toArray
  have hK := hcx.now.2.1
  have hl := lv_entry ([.ref h, .int k, .int to, .int vl, .int cn]) (n := 6) (Nat.le_of_ble_eq_true rfl)
  rw [lg_entry_eq]
  generalize (lg_sl ([.ref h, .int k, .int to, .int vl, .int cn]) ++ List.replicate (6 - (lg_sl ([.ref h, .int k, .int to, .int vl, .int cn])).length) Slot.unset).toArray = ls at hl ⊢
  have hl : lv_has ls 6 [(0, .ref h), (1, .int k), (2, .int to), (3, .int vl), (4, .int cn)] := hl
  unfold wp_Pm_fill at hw
  refine lv_aload_n hx hb d_Pm_fill_0 rfl (lv_at hl 0 rfl) ?_
  refine lv_iconst (v := 0) hx hb d_Pm_fill_1 (by decide) ?_
  refine va_put (D := G.1) (ci := 1) (v := .int 0) (ty := (.int)) (C := R_Pm) (T := T_Pm) (N := 12) hx hb hts in_Pm ty_Pm tk_Pm nm_Pm hown hK hP hD hS 0 rfl rfl 11 (by decide) (hts _ fl_Pm_50) (fun _ h9 => h9) rfl (by decide +kernel) rfl rfl (Nat.le_of_ble_eq_true rfl) d_Pm_fill_2 (fun H locs hP hD hS => ?_)
  have hP : va_P G.1 vwC [(h, .inr (1, [.ref m0, .ref aml, .ref amb, .ref t0, .ref atl, .ref att, .ref ate, .ref b0, .ref asb, .ref r0, .ref asr, .int 0])), (m0, .inr (0, [.int 12288, .ref m1, .ref m2, .ref m3, .int mC, .int mU])), (m1, .inl (G.2.1 0, 6, .inl mS)), (m2, .inl (G.2.1 0, 6, .inl mL)), (m3, .inl (G.2.1 2, 6, .inl mD)), (amb, .inl (G.2.1 1, 12288, .inl fmb))] H := hP
  have hD : va_D A [(h, .inr (1, [.ref m0, .ref aml, .ref amb, .ref t0, .ref atl, .ref att, .ref ate, .ref b0, .ref asb, .ref r0, .ref asr, .int 0])), (m0, .inr (0, [.int 12288, .ref m1, .ref m2, .ref m3, .int mC, .int mU])), (m1, .inl (G.2.1 0, 6, .inl mS)), (m2, .inl (G.2.1 0, 6, .inl mL)), (m3, .inl (G.2.1 2, 6, .inl mD)), (amb, .inl (G.2.1 1, 12288, .inl fmb))] := hD
  refine lv_aload_n hx hb d_Pm_fill_5 rfl (lv_at hl 0 rfl) ?_
  refine va_get (D := G.1) (ci := 1) (v := .ref m0) (C := R_Pm) (T := T_Pm) (N := 12) hx hb hts in_Pm hown hK hP 0 rfl rfl 0 (by decide) (hts _ fl_Pm_14) (fun _ h9 => h9) rfl d_Pm_fill_6 ?_
  refine lv_iload_n hx hb d_Pm_fill_9 rfl (lv_at hl 1 rfl) ?_
  have hPc := hP.sub (ws' := [(m0, .inr (0, [.int 12288, .ref m1, .ref m2, .ref m3, .int mC, .int mU])), (m1, .inl (G.2.1 0, 6, .inl mS)), (m2, .inl (G.2.1 0, 6, .inl mL)), (m3, .inl (G.2.1 2, 6, .inl mD))]) [1, 2, 3, 4] rfl
  refine pu_i (va_runV (As := [.int k]) (rest := []) ⟨hx, hb, hml, hown, hts⟩ (c_Ly_has l G m0 m1 m2 m3 6 12288 mC mU mS mL mD k) (cwV 1 hts (gi_V ml_Pm_67 im_Ly_has se_Ly_has ini_Ly co_Ly_has) rfl rfl rfl (by decide +kernel) ⟨Nat.le_of_ble_eq_true rfl, Nat.le_of_ble_eq_true rfl⟩) ⟨cp_blind, va_recv hK hPc (ci := 0) (q0 := 0) rfl rfl, cp_pre hcx hS hPc⟩ rfl rfl hl.1 rfl (lv_room (Nat.le_of_ble_eq_true rfl)) d_Pm_fill_10 ⟨Nat.le_of_ble_eq_true rfl, Nat.le_of_ble_eq_true rfl⟩) hS hP (fun H locs hP hS => ?_)
  refine lv_if_ne (tgt := 26) hx hb d_Pm_fill_13 (by decide) (fun c_1 => ?_) (fun c_1 => ?_)
  · replace hw := hw.1 c_1
    refine lv_aload_n hx hb d_Pm_fill_26 rfl (lv_at hl 0 rfl) ?_
    refine lv_aload_n hx hb d_Pm_fill_27 rfl (lv_at hl 0 rfl) ?_
    refine va_get (D := G.1) (ci := 1) (v := .ref m0) (C := R_Pm) (T := T_Pm) (N := 12) hx hb hts in_Pm hown hK hP 0 rfl rfl 0 (by decide) (hts _ fl_Pm_14) (fun _ h9 => h9) rfl d_Pm_fill_28 ?_
    refine lv_iload_n hx hb d_Pm_fill_31 rfl (lv_at hl 1 rfl) ?_
    refine lv_iload_n hx hb d_Pm_fill_32 rfl (lv_at hl 2 rfl) ?_
    have hPc := hP.sub (ws' := []) [] rfl
    refine pu_l (va_runS (As := [.int to]) (rest := [.int k, .ref m0, .ref h]) ⟨hx, hb, hml, hown, hts⟩ (c_Pm_unsigned l G to) (va_cwS 1 hts (gi_S ml_Pm_74 sm_Pm_unsigned ini_Pm co_Pm_unsigned) rfl rfl rfl (by decide +kernel) ⟨Nat.le_of_ble_eq_true rfl, Nat.le_of_ble_eq_true rfl⟩) ⟨cp_blind, cp_pre hcx hS hPc⟩ rfl rfl hl.1 rfl (lv_room (Nat.le_of_ble_eq_true rfl)) d_Pm_fill_33 ⟨Nat.le_of_ble_eq_true rfl, Nat.le_of_ble_eq_true rfl⟩) hS hP (fun H locs hP hS => ?_)
    refine lv_iload hx hb d_Pm_fill_36 (lv_at hl 4 rfl) ?_
    have hPc := hP.sub (ws' := []) [] rfl
    refine pu_l (va_runS (As := [.int cn]) (rest := [.long (u32 to), .int k, .ref m0, .ref h]) ⟨hx, hb, hml, hown, hts⟩ (c_Pm_unsigned l G cn) (va_cwS 1 hts (gi_S ml_Pm_74 sm_Pm_unsigned ini_Pm co_Pm_unsigned) rfl rfl rfl (by decide +kernel) ⟨Nat.le_of_ble_eq_true rfl, Nat.le_of_ble_eq_true rfl⟩) ⟨cp_blind, cp_pre hcx hS hPc⟩ rfl rfl hl.1 rfl (lv_room (Nat.le_of_ble_eq_true rfl)) d_Pm_fill_38 ⟨Nat.le_of_ble_eq_true rfl, Nat.le_of_ble_eq_true rfl⟩) hS hP (fun H locs hP hS => ?_)
    refine lv_iconst (v := 4) hx hb d_Pm_fill_41 (by decide) ?_
    obtain ⟨h_2, hw⟩ := hw
    have hPc := hP.sub (ws' := [(h, .inr (1, [.ref m0, .ref aml, .ref amb, .ref t0, .ref atl, .ref att, .ref ate, .ref b0, .ref asb, .ref r0, .ref asr, .int 0])), (m0, .inr (0, [.int 12288, .ref m1, .ref m2, .ref m3, .int mC, .int mU])), (m1, .inl (G.2.1 0, 6, .inl mS)), (m2, .inl (G.2.1 0, 6, .inl mL)), (m3, .inl (G.2.1 2, 6, .inl mD))]) [0, 1, 2, 3, 4] rfl
    have hDc := hD.sub (ws' := [(h, .inr (1, [.ref m0, .ref aml, .ref amb, .ref t0, .ref atl, .ref att, .ref ate, .ref b0, .ref asb, .ref r0, .ref asr, .int 0])), (m0, .inr (0, [.int 12288, .ref m1, .ref m2, .ref m3, .int mC, .int mU])), (m1, .inl (G.2.1 0, 6, .inl mS)), (m2, .inl (G.2.1 0, 6, .inl mL)), (m3, .inl (G.2.1 2, 6, .inl mD))]) [0, 1, 2, 3, 4] (by decide) rfl
    have hFc := va_free (wc := [(h, .inr (1, [.ref m0, .ref aml, .ref amb, .ref t0, .ref atl, .ref att, .ref ate, .ref b0, .ref asb, .ref r0, .ref asr, .int 0])), (m0, .inr (0, [.int 12288, .ref m1, .ref m2, .ref m3, .int mC, .int mU])), (m1, .inl (G.2.1 0, 6, .inl mS)), (m2, .inl (G.2.1 0, 6, .inl mL)), (m3, .inl (G.2.1 2, 6, .inl mD))]) hD hS hA [0, 1, 2, 3, 4] rfl
    refine tx_i (tr_runV (As := [.ref m0, .int k, .long (u32 to), .long (u32 cn), .int 4]) (rest := []) ⟨hx, hb, hml, hown, hts⟩ (c_Pm_placeOf l hst G h m0 aml amb t0 atl att ate b0 asb r0 asr m0 m1 m2 m3 6 0 12288 mC mU mS mL mD k (u32 to) (u32 cn) 4 _ h_2) (cwV 5 hts (gi_V ml_Pm_113 im_Pm_placeOf se_Pm_placeOf ini_Pm co_Pm_placeOf) rfl rfl rfl (by decide +kernel) ⟨Nat.le_of_ble_eq_true rfl, Nat.le_of_ble_eq_true rfl⟩) ⟨cm_blind, va_recv hK hPc (ci := 1) (q0 := 0) rfl rfl, cm_pre hcx hS hPc hDc hFc⟩ rfl rfl hl.1 rfl (lv_room (Nat.le_of_ble_eq_true rfl)) d_Pm_fill_42 ⟨Nat.le_of_ble_eq_true rfl, Nat.le_of_ble_eq_true rfl⟩) hS hP hD hA [0, 1, 2, 3, 4] rfl (fun _ => rfl) (fun _ => rfl) (fun E9 u9 hp q9 ce9 H locs hP hD hS h91 h92 h93 => ?_) (fun r9 u9 H locs hp hP hD hS => ?_)
    · obtain ⟨hN, rfl, rfl⟩ := hp
      exact tr_pass (hnt _) hlocks h91 h92 h93 (fun t ht => ⟨(4, fmb), hw.2 hN, by have h9 := hP; rw [← ht] at h9; exact h9⟩) hS (Nat.le_of_ble_eq_true rfl) (Nat.le_of_ble_eq_true rfl)
    · obtain ⟨hN, e91, e92⟩ := hp; replace e91 := e91.symm; replace e92 := e92.symm; subst e91; subst e92
      replace hw := hw.1 hN
      have hP : va_P G.1 vwC [(h, .inr (1, [.ref m0, .ref aml, .ref amb, .ref t0, .ref atl, .ref att, .ref ate, .ref b0, .ref asb, .ref r0, .ref asr, .int 0])), (m0, .inr (0, [.int 12288, .ref m1, .ref m2, .ref m3, .int mC, .int mU])), (m1, .inl (G.2.1 0, 6, .inl mS)), (m2, .inl (G.2.1 0, 6, .inl mL)), (m3, .inl (G.2.1 2, 6, .inl mD)), (amb, .inl (G.2.1 1, 12288, .inl fmb))] H := hP
      have hD : va_D A [(h, .inr (1, [.ref m0, .ref aml, .ref amb, .ref t0, .ref atl, .ref att, .ref ate, .ref b0, .ref asb, .ref r0, .ref asr, .int 0])), (m0, .inr (0, [.int 12288, .ref m1, .ref m2, .ref m3, .int mC, .int mU])), (m1, .inl (G.2.1 0, 6, .inl mS)), (m2, .inl (G.2.1 0, 6, .inl mL)), (m3, .inl (G.2.1 2, 6, .inl mD)), (amb, .inl (G.2.1 1, 12288, .inl fmb))] := hD
      refine lv_topi (fun x_3 ex_3 => ?_)
      replace hw := hw x_3 ex_3
      refine lv_istore (lv' := [(5, .int x_3), (0, .ref h), (1, .int k), (2, .int to), (3, .int vl), (4, .int cn)]) hx hb d_Pm_fill_45 hl (by decide) rfl (fun ls hl => ?_)
      refine lv_aload_n hx hb d_Pm_fill_47 rfl (lv_at hl 1 rfl) ?_
      refine va_get (D := G.1) (ci := 1) (v := .ref amb) (C := R_Pm) (T := T_Pm) (N := 12) hx hb hts in_Pm hown hK hP 0 rfl rfl 2 (by decide) (hts _ fl_Pm_22) (fun _ h9 => h9) rfl d_Pm_fill_48 ?_
      refine lv_iload hx hb d_Pm_fill_51 (lv_at hl 0 rfl) ?_
      refine lv_iload hx hb d_Pm_fill_53 (lv_at hl 0 rfl) ?_
      refine lv_iload hx hb d_Pm_fill_55 (lv_at hl 5 rfl) ?_
      refine lv_iadd hx hb d_Pm_fill_57 ?_
      refine lv_iload_n hx hb d_Pm_fill_58 rfl (lv_at hl 4 rfl) ?_
      refine lv_i2b (v := vl.toInt8.toInt32) hx hb d_Pm_fill_59 rfl ?_
      obtain ⟨h_4, hw⟩ := hw
      obtain ⟨h_5, hw⟩ := hw
      obtain ⟨h_6, hw⟩ := hw
      obtain ⟨h_7, hw⟩ := hw
      obtain ⟨h_8, hw⟩ := hw
      have hPc := hP.sub (ws' := [(amb, .inl (G.2.1 1, 12288, .inl fmb))]) [5] rfl
      have hDc := hD.sub (ws' := [(amb, .inl (G.2.1 1, 12288, .inl fmb))]) [5] (by decide) rfl
      have hFc := va_free (wc := [(amb, .inl (G.2.1 1, 12288, .inl fmb))]) hD hS hA [5] rfl
      refine ip_v (va_runS (As := [.ref amb, .int x_3, .int (x_3 + cn), .int vl.toInt8.toInt32]) (rest := []) ⟨hx, hb, hml, hown, hts⟩ (c_Ar_fillB l G amb 12288 fmb x_3 (x_3 + cn) vl.toInt8.toInt32 _ h_4 h_5 h_6 h_7 h_8) (va_cwS 4 hts (gi_S ml_Pm_90 sm_Ar_fillB ini_Ar co_Ar_fillB) rfl rfl rfl (by decide +kernel) ⟨Nat.le_of_ble_eq_true rfl, Nat.le_of_ble_eq_true rfl⟩) ⟨cm_blind, cm_pre hcx hS hPc hDc hFc⟩ rfl rfl hl.1 rfl (lv_room (Nat.le_of_ble_eq_true rfl)) d_Pm_fill_60 ⟨Nat.le_of_ble_eq_true rfl, Nat.le_of_ble_eq_true rfl⟩) hS hP hD hA [5] rfl (fun _ => rfl) (fun u9 H locs hp hP hD hS => ?_)
      replace hp := hp.symm; subst hp
      obtain ⟨u_9, eu_9⟩ : ∃ z : Nat → Int32, z = ar_fill fmb x_3.toNatClampNeg (x_3 + cn).toNatClampNeg vl.toInt8.toInt32 := ⟨_, rfl⟩
      replace hw := hw u_9 eu_9
      have hP : va_P G.1 vwC [(h, .inr (1, [.ref m0, .ref aml, .ref amb, .ref t0, .ref atl, .ref att, .ref ate, .ref b0, .ref asb, .ref r0, .ref asr, .int 0])), (m0, .inr (0, [.int 12288, .ref m1, .ref m2, .ref m3, .int mC, .int mU])), (m1, .inl (G.2.1 0, 6, .inl mS)), (m2, .inl (G.2.1 0, 6, .inl mL)), (m3, .inl (G.2.1 2, 6, .inl mD)), (amb, .inl (G.2.1 1, 12288, .inl (ar_fill fmb x_3.toNatClampNeg (x_3 + cn).toNatClampNeg vl.toInt8.toInt32)))] H := hP
      have hD : va_D A [(h, .inr (1, [.ref m0, .ref aml, .ref amb, .ref t0, .ref atl, .ref att, .ref ate, .ref b0, .ref asb, .ref r0, .ref asr, .int 0])), (m0, .inr (0, [.int 12288, .ref m1, .ref m2, .ref m3, .int mC, .int mU])), (m1, .inl (G.2.1 0, 6, .inl mS)), (m2, .inl (G.2.1 0, 6, .inl mL)), (m3, .inl (G.2.1 2, 6, .inl mD)), (amb, .inl (G.2.1 1, 12288, .inl (ar_fill fmb x_3.toNatClampNeg (x_3 + cn).toNatClampNeg vl.toInt8.toInt32)))] := hD
      have hP : va_P G.1 vwC [(h, .inr (1, [.ref m0, .ref aml, .ref amb, .ref t0, .ref atl, .ref att, .ref ate, .ref b0, .ref asb, .ref r0, .ref asr, .int 0])), (m0, .inr (0, [.int 12288, .ref m1, .ref m2, .ref m3, .int mC, .int mU])), (m1, .inl (G.2.1 0, 6, .inl mS)), (m2, .inl (G.2.1 0, 6, .inl mL)), (m3, .inl (G.2.1 2, 6, .inl mD)), (amb, .inl (G.2.1 1, 12288, .inl u_9))] H := by rw [eu_9]; exact hP
      have hD : va_D A [(h, .inr (1, [.ref m0, .ref aml, .ref amb, .ref t0, .ref atl, .ref att, .ref ate, .ref b0, .ref asb, .ref r0, .ref asr, .int 0])), (m0, .inr (0, [.int 12288, .ref m1, .ref m2, .ref m3, .int mC, .int mU])), (m1, .inl (G.2.1 0, 6, .inl mS)), (m2, .inl (G.2.1 0, 6, .inl mL)), (m3, .inl (G.2.1 2, 6, .inl mD)), (amb, .inl (G.2.1 1, 12288, .inl u_9))] := by rw [eu_9]; exact hD
      exact tr_ret (W.vret hx hb hr (fun t ht hW => ⟨⟨(0, u_9), rfl, hw, by have h9 := hP; rw [← ht] at h9; exact h9⟩, hS.F ht⟩) hS.2.2 d_Pm_fill_63)
  · replace hw := hw.2 c_1
    exact tr_throw hx hb hst hown (by decide +kernel) (by decide +kernel) (hcx.imp (fun V h => tw_ill_132 V h)) hS (hl.1.trans hml.symm) d_Pm_fill_16 d_Pm_fill_19 d_Pm_fill_20 d_Pm_fill_22 d_Pm_fill_25 (hnt _) (Nat.le_of_ble_eq_true rfl) (Nat.le_of_ble_eq_true rfl) (Nat.le_of_ble_eq_true rfl) (Nat.le_of_ble_eq_true rfl) hlocks (fun t h1 h2 => ⟨(0, fmb), hw, hP.kept fun k q hq => h2 q.1 (hP k q hq).lt⟩) hA (Nat.le_of_ble_eq_true rfl) (Nat.le_of_ble_eq_true rfl)
def wp_Pm_copy (post : (Int32 × (Nat → Int32)) → Prop) (postx : String → (Int32 × (Nat → Int32)) → Prop) (trp : Int32) (mC : Int32) (mU : Int32) (mS : Nat → Int32) (mL : Nat → Int32) (mD : Nat → Int32) (fmb : Nat → Int32) (k : Int32) (to : Int32) (fr : Int32) (cn : Int32) : Prop := ((¬ ly_has mC k = 0 → ((mC.toInt ≤ 6) ∧ (((lg_cmp ((u32 fr) + (u32 cn)) (ly_ln mC k mL).toInt64 ≤ 0 → (∀ x_3 : Int32, x_3 = ly_st mC k mS + (u32 fr).toInt32 → ((mC.toInt ≤ 6) ∧ (((lg_cmp ((u32 to) + (u32 cn)) (ly_ln mC k mL).toInt64 ≤ 0 → (∀ x_5 : Int32, x_5 = ly_st mC k mS + (u32 to).toInt32 → ((¬ x_3 < 0) ∧ (¬ x_5 < 0) ∧ (¬ cn < 0) ∧ (x_3.toNatClampNeg + cn.toNatClampNeg ≤ 12288) ∧ (x_5.toNatClampNeg + cn.toNatClampNeg ≤ 12288) ∧ (∀ i, i < cn.toNatClampNeg → fits .byte (.int (fmb (x_3.toNatClampNeg + i))) = true) ∧ ∀ a_12 : Nat → Int32, a_12 = va_cpy fmb fmb x_3.toNatClampNeg x_5.toNatClampNeg cn.toNatClampNeg → (post (0, a_12))))) ∧ (¬ lg_cmp ((u32 to) + (u32 cn)) (ly_ln mC k mL).toInt64 ≤ 0 → (postx E_uns (4, fmb)))))))) ∧ (¬ lg_cmp ((u32 fr) + (u32 cn)) (ly_ln mC k mL).toInt64 ≤ 0 → (postx E_uns (4, fmb))))))) ∧ (ly_has mC k = 0 → (postx E_ill (0, fmb))))
set_option maxHeartbeats 4000000 in
set_option maxRecDepth 100000 in
theorem t_Pm_copy (l : Launch) (hst : l.stackTraces = false) (G : cxT) (h : Nat) (m0 : Nat) (aml : Nat) (amb : Nat) (t0 : Nat) (atl : Nat) (att : Nat) (ate : Nat) (b0 : Nat) (asb : Nat) (r0 : Nat) (asr : Nat) (m1 : Nat) (m2 : Nat) (m3 : Nat) (trp : Int32) (mC : Int32) (mU : Int32) (mS : Nat → Int32) (mL : Nat → Int32) (mD : Nat → Int32) (fmb : Nat → Int32) (k : Int32) (to : Int32) (fr : Int32) (cn : Int32) (sz : Nat) (post : (Int32 × (Nat → Int32)) → Prop) (postx : String → (Int32 × (Nat → Int32)) → Prop) (hw : wp_Pm_copy post postx trp mC mU mS mL mD fmb k to fr cn) : tr_Met l y_Pm_copy [.code y_Pm_copy b_Pm_copy 7 none] ({ frames := 8, cells := 2, slots := 12, locals := 140 } : Room) (cm G [.ref h, .int k, .int to, .int fr, .int cn] [(h, .inr (1, [.ref m0, .ref aml, .ref amb, .ref t0, .ref atl, .ref att, .ref ate, .ref b0, .ref asb, .ref r0, .ref asr, .int trp])), (m0, .inr (0, [.int 12288, .ref m1, .ref m2, .ref m3, .int mC, .int mU])), (m1, .inl (G.2.1 0, 6, .inl mS)), (m2, .inl (G.2.1 0, 6, .inl mL)), (m3, .inl (G.2.1 2, 6, .inl mD)), (amb, .inl (G.2.1 1, 12288, .inl fmb))] sz) (va_Qv post (fun u t => va_P G.1 vwC [(h, .inr (1, [.ref m0, .ref aml, .ref amb, .ref t0, .ref atl, .ref att, .ref ate, .ref b0, .ref asb, .ref r0, .ref asr, .int u.1])), (m0, .inr (0, [.int 12288, .ref m1, .ref m2, .ref m3, .int mC, .int mU])), (m1, .inl (G.2.1 0, 6, .inl mS)), (m2, .inl (G.2.1 0, 6, .inl mL)), (m3, .inl (G.2.1 2, 6, .inl mD)), (amb, .inl (G.2.1 1, 12288, .inl u.2))] t.heap) (va_A [(h, .inr (1, [.ref m0, .ref aml, .ref amb, .ref t0, .ref atl, .ref att, .ref ate, .ref b0, .ref asb, .ref r0, .ref asr, .int trp])), (m0, .inr (0, [.int 12288, .ref m1, .ref m2, .ref m3, .int mC, .int mU])), (m1, .inl (G.2.1 0, 6, .inl mS)), (m2, .inl (G.2.1 0, 6, .inl mL)), (m3, .inl (G.2.1 2, 6, .inl mD)), (amb, .inl (G.2.1 1, 12288, .inl fmb))] sz)) (fun E t => ∃ u : Int32 × (Nat → Int32), postx E u ∧ va_P G.1 vwC [(h, .inr (1, [.ref m0, .ref aml, .ref amb, .ref t0, .ref atl, .ref att, .ref ate, .ref b0, .ref asb, .ref r0, .ref asr, .int u.1])), (m0, .inr (0, [.int 12288, .ref m1, .ref m2, .ref m3, .int mC, .int mU])), (m1, .inl (G.2.1 0, 6, .inl mS)), (m2, .inl (G.2.1 0, 6, .inl mL)), (m3, .inl (G.2.1 2, 6, .inl mD)), (amb, .inl (G.2.1 1, 12288, .inl u.2))] t.heap) (va_A [(h, .inr (1, [.ref m0, .ref aml, .ref amb, .ref t0, .ref atl, .ref att, .ref ate, .ref b0, .ref asb, .ref r0, .ref asr, .int trp])), (m0, .inr (0, [.int 12288, .ref m1, .ref m2, .ref m3, .int mC, .int mU])), (m1, .inl (G.2.1 0, 6, .inl mS)), (m2, .inl (G.2.1 0, 6, .inl mL)), (m3, .inl (G.2.1 2, 6, .inl mD)), (amb, .inl (G.2.1 1, 12288, .inl fmb))] sz) 2 12 := by
  refine tr_ofW (cc := b_Pm_copy) (maxL := 7) (ret := none) (by decide +kernel) rfl ?_
  intro p e s m args below meth c s₁ B hml hv
  obtain ⟨rfl, hsz, hcx, hP, hD0⟩ := hv
  have hx := B.exec
  have hb := B.bytes
  have hr := B.returns
  have hlocks := B.notSynchronized
  have hown : s.vm.findClass R_Pm = some m.cls := findClass_of_methodNamed B.named
  have hnt := tr_nt (ws := [.code y_Pm_copy b_Pm_copy 7 none]) (rm := ({ frames := 8, cells := 2, slots := 12, locals := 140 } : Room)) B rfl
  subst hsz
  have hD := hD0.self (sz := s.heap.size)
  generalize hAe : va_A [(h, .inr (1, [.ref m0, .ref aml, .ref amb, .ref t0, .ref atl, .ref att, .ref ate, .ref b0, .ref asb, .ref r0, .ref asr, .int trp])), (m0, .inr (0, [.int 12288, .ref m1, .ref m2, .ref m3, .int mC, .int mU])), (m1, .inl (G.2.1 0, 6, .inl mS)), (m2, .inl (G.2.1 0, 6, .inl mL)), (m3, .inl (G.2.1 2, 6, .inl mD)), (amb, .inl (G.2.1 1, 12288, .inl fmb))] s.heap.size = A at hD hcx ⊢
  have hA : ∀ q : Nat, s.heap.size ≤ q → A q := fun q h => by rw [← hAe]; exact Or.inr h
  have hS : va_S A s.heap s.heap [] := va_S.rf
  have hts := hcx.now.1 [.ref h, .int k, .int to, .int fr, .int cn].toArray
  have hK := hcx.now.2.1
  have hl := lv_entry ([.ref h, .int k, .int to, .int fr, .int cn]) (n := 7) (Nat.le_of_ble_eq_true rfl)
  rw [lg_entry_eq]
  generalize (lg_sl ([.ref h, .int k, .int to, .int fr, .int cn]) ++ List.replicate (7 - (lg_sl ([.ref h, .int k, .int to, .int fr, .int cn])).length) Slot.unset).toArray = ls at hl ⊢
  have hl : lv_has ls 7 [(0, .ref h), (1, .int k), (2, .int to), (3, .int fr), (4, .int cn)] := hl
  unfold wp_Pm_copy at hw
  refine lv_aload_n hx hb d_Pm_copy_0 rfl (lv_at hl 0 rfl) ?_
  refine lv_iconst (v := 0) hx hb d_Pm_copy_1 (by decide) ?_
  refine va_put (D := G.1) (ci := 1) (v := .int 0) (ty := (.int)) (C := R_Pm) (T := T_Pm) (N := 12) hx hb hts in_Pm ty_Pm tk_Pm nm_Pm hown hK hP hD hS 0 rfl rfl 11 (by decide) (hts _ fl_Pm_50) (fun _ h9 => h9) rfl (by decide +kernel) rfl rfl (Nat.le_of_ble_eq_true rfl) d_Pm_copy_2 (fun H locs hP hD hS => ?_)
  have hP : va_P G.1 vwC [(h, .inr (1, [.ref m0, .ref aml, .ref amb, .ref t0, .ref atl, .ref att, .ref ate, .ref b0, .ref asb, .ref r0, .ref asr, .int 0])), (m0, .inr (0, [.int 12288, .ref m1, .ref m2, .ref m3, .int mC, .int mU])), (m1, .inl (G.2.1 0, 6, .inl mS)), (m2, .inl (G.2.1 0, 6, .inl mL)), (m3, .inl (G.2.1 2, 6, .inl mD)), (amb, .inl (G.2.1 1, 12288, .inl fmb))] H := hP
  have hD : va_D A [(h, .inr (1, [.ref m0, .ref aml, .ref amb, .ref t0, .ref atl, .ref att, .ref ate, .ref b0, .ref asb, .ref r0, .ref asr, .int 0])), (m0, .inr (0, [.int 12288, .ref m1, .ref m2, .ref m3, .int mC, .int mU])), (m1, .inl (G.2.1 0, 6, .inl mS)), (m2, .inl (G.2.1 0, 6, .inl mL)), (m3, .inl (G.2.1 2, 6, .inl mD)), (amb, .inl (G.2.1 1, 12288, .inl fmb))] := hD
  refine lv_aload_n hx hb d_Pm_copy_5 rfl (lv_at hl 0 rfl) ?_
  refine va_get (D := G.1) (ci := 1) (v := .ref m0) (C := R_Pm) (T := T_Pm) (N := 12) hx hb hts in_Pm hown hK hP 0 rfl rfl 0 (by decide) (hts _ fl_Pm_14) (fun _ h9 => h9) rfl d_Pm_copy_6 ?_
  refine lv_iload_n hx hb d_Pm_copy_9 rfl (lv_at hl 1 rfl) ?_
  have hPc := hP.sub (ws' := [(m0, .inr (0, [.int 12288, .ref m1, .ref m2, .ref m3, .int mC, .int mU])), (m1, .inl (G.2.1 0, 6, .inl mS)), (m2, .inl (G.2.1 0, 6, .inl mL)), (m3, .inl (G.2.1 2, 6, .inl mD))]) [1, 2, 3, 4] rfl
  refine pu_i (va_runV (As := [.int k]) (rest := []) ⟨hx, hb, hml, hown, hts⟩ (c_Ly_has l G m0 m1 m2 m3 6 12288 mC mU mS mL mD k) (cwV 1 hts (gi_V ml_Pm_67 im_Ly_has se_Ly_has ini_Ly co_Ly_has) rfl rfl rfl (by decide +kernel) ⟨Nat.le_of_ble_eq_true rfl, Nat.le_of_ble_eq_true rfl⟩) ⟨cp_blind, va_recv hK hPc (ci := 0) (q0 := 0) rfl rfl, cp_pre hcx hS hPc⟩ rfl rfl hl.1 rfl (lv_room (Nat.le_of_ble_eq_true rfl)) d_Pm_copy_10 ⟨Nat.le_of_ble_eq_true rfl, Nat.le_of_ble_eq_true rfl⟩) hS hP (fun H locs hP hS => ?_)
  refine lv_if_ne (tgt := 26) hx hb d_Pm_copy_13 (by decide) (fun c_1 => ?_) (fun c_1 => ?_)
  · replace hw := hw.1 c_1
    refine lv_aload_n hx hb d_Pm_copy_26 rfl (lv_at hl 0 rfl) ?_
    refine lv_aload_n hx hb d_Pm_copy_27 rfl (lv_at hl 0 rfl) ?_
    refine va_get (D := G.1) (ci := 1) (v := .ref m0) (C := R_Pm) (T := T_Pm) (N := 12) hx hb hts in_Pm hown hK hP 0 rfl rfl 0 (by decide) (hts _ fl_Pm_14) (fun _ h9 => h9) rfl d_Pm_copy_28 ?_
    refine lv_iload_n hx hb d_Pm_copy_31 rfl (lv_at hl 1 rfl) ?_
    refine lv_iload_n hx hb d_Pm_copy_32 rfl (lv_at hl 3 rfl) ?_
    have hPc := hP.sub (ws' := []) [] rfl
    refine pu_l (va_runS (As := [.int fr]) (rest := [.int k, .ref m0, .ref h]) ⟨hx, hb, hml, hown, hts⟩ (c_Pm_unsigned l G fr) (va_cwS 1 hts (gi_S ml_Pm_74 sm_Pm_unsigned ini_Pm co_Pm_unsigned) rfl rfl rfl (by decide +kernel) ⟨Nat.le_of_ble_eq_true rfl, Nat.le_of_ble_eq_true rfl⟩) ⟨cp_blind, cp_pre hcx hS hPc⟩ rfl rfl hl.1 rfl (lv_room (Nat.le_of_ble_eq_true rfl)) d_Pm_copy_33 ⟨Nat.le_of_ble_eq_true rfl, Nat.le_of_ble_eq_true rfl⟩) hS hP (fun H locs hP hS => ?_)
    refine lv_iload hx hb d_Pm_copy_36 (lv_at hl 4 rfl) ?_
    have hPc := hP.sub (ws' := []) [] rfl
    refine pu_l (va_runS (As := [.int cn]) (rest := [.long (u32 fr), .int k, .ref m0, .ref h]) ⟨hx, hb, hml, hown, hts⟩ (c_Pm_unsigned l G cn) (va_cwS 1 hts (gi_S ml_Pm_74 sm_Pm_unsigned ini_Pm co_Pm_unsigned) rfl rfl rfl (by decide +kernel) ⟨Nat.le_of_ble_eq_true rfl, Nat.le_of_ble_eq_true rfl⟩) ⟨cp_blind, cp_pre hcx hS hPc⟩ rfl rfl hl.1 rfl (lv_room (Nat.le_of_ble_eq_true rfl)) d_Pm_copy_38 ⟨Nat.le_of_ble_eq_true rfl, Nat.le_of_ble_eq_true rfl⟩) hS hP (fun H locs hP hS => ?_)
    refine lv_iconst (v := 4) hx hb d_Pm_copy_41 (by decide) ?_
    obtain ⟨h_2, hw⟩ := hw
    have hPc := hP.sub (ws' := [(h, .inr (1, [.ref m0, .ref aml, .ref amb, .ref t0, .ref atl, .ref att, .ref ate, .ref b0, .ref asb, .ref r0, .ref asr, .int 0])), (m0, .inr (0, [.int 12288, .ref m1, .ref m2, .ref m3, .int mC, .int mU])), (m1, .inl (G.2.1 0, 6, .inl mS)), (m2, .inl (G.2.1 0, 6, .inl mL)), (m3, .inl (G.2.1 2, 6, .inl mD))]) [0, 1, 2, 3, 4] rfl
    have hDc := hD.sub (ws' := [(h, .inr (1, [.ref m0, .ref aml, .ref amb, .ref t0, .ref atl, .ref att, .ref ate, .ref b0, .ref asb, .ref r0, .ref asr, .int 0])), (m0, .inr (0, [.int 12288, .ref m1, .ref m2, .ref m3, .int mC, .int mU])), (m1, .inl (G.2.1 0, 6, .inl mS)), (m2, .inl (G.2.1 0, 6, .inl mL)), (m3, .inl (G.2.1 2, 6, .inl mD))]) [0, 1, 2, 3, 4] (by decide) rfl
    have hFc := va_free (wc := [(h, .inr (1, [.ref m0, .ref aml, .ref amb, .ref t0, .ref atl, .ref att, .ref ate, .ref b0, .ref asb, .ref r0, .ref asr, .int 0])), (m0, .inr (0, [.int 12288, .ref m1, .ref m2, .ref m3, .int mC, .int mU])), (m1, .inl (G.2.1 0, 6, .inl mS)), (m2, .inl (G.2.1 0, 6, .inl mL)), (m3, .inl (G.2.1 2, 6, .inl mD))]) hD hS hA [0, 1, 2, 3, 4] rfl
    refine tx_i (tr_runV (As := [.ref m0, .int k, .long (u32 fr), .long (u32 cn), .int 4]) (rest := []) ⟨hx, hb, hml, hown, hts⟩ (c_Pm_placeOf l hst G h m0 aml amb t0 atl att ate b0 asb r0 asr m0 m1 m2 m3 6 0 12288 mC mU mS mL mD k (u32 fr) (u32 cn) 4 _ h_2) (cwV 5 hts (gi_V ml_Pm_113 im_Pm_placeOf se_Pm_placeOf ini_Pm co_Pm_placeOf) rfl rfl rfl (by decide +kernel) ⟨Nat.le_of_ble_eq_true rfl, Nat.le_of_ble_eq_true rfl⟩) ⟨cm_blind, va_recv hK hPc (ci := 1) (q0 := 0) rfl rfl, cm_pre hcx hS hPc hDc hFc⟩ rfl rfl hl.1 rfl (lv_room (Nat.le_of_ble_eq_true rfl)) d_Pm_copy_42 ⟨Nat.le_of_ble_eq_true rfl, Nat.le_of_ble_eq_true rfl⟩) hS hP hD hA [0, 1, 2, 3, 4] rfl (fun _ => rfl) (fun _ => rfl) (fun E9 u9 hp q9 ce9 H locs hP hD hS h91 h92 h93 => ?_) (fun r9 u9 H locs hp hP hD hS => ?_)
    · obtain ⟨hN, rfl, rfl⟩ := hp
      exact tr_pass (hnt _) hlocks h91 h92 h93 (fun t ht => ⟨(4, fmb), hw.2 hN, by have h9 := hP; rw [← ht] at h9; exact h9⟩) hS (Nat.le_of_ble_eq_true rfl) (Nat.le_of_ble_eq_true rfl)
    · obtain ⟨hN, e91, e92⟩ := hp; replace e91 := e91.symm; replace e92 := e92.symm; subst e91; subst e92
      replace hw := hw.1 hN
      have hP : va_P G.1 vwC [(h, .inr (1, [.ref m0, .ref aml, .ref amb, .ref t0, .ref atl, .ref att, .ref ate, .ref b0, .ref asb, .ref r0, .ref asr, .int 0])), (m0, .inr (0, [.int 12288, .ref m1, .ref m2, .ref m3, .int mC, .int mU])), (m1, .inl (G.2.1 0, 6, .inl mS)), (m2, .inl (G.2.1 0, 6, .inl mL)), (m3, .inl (G.2.1 2, 6, .inl mD)), (amb, .inl (G.2.1 1, 12288, .inl fmb))] H := hP
      have hD : va_D A [(h, .inr (1, [.ref m0, .ref aml, .ref amb, .ref t0, .ref atl, .ref att, .ref ate, .ref b0, .ref asb, .ref r0, .ref asr, .int 0])), (m0, .inr (0, [.int 12288, .ref m1, .ref m2, .ref m3, .int mC, .int mU])), (m1, .inl (G.2.1 0, 6, .inl mS)), (m2, .inl (G.2.1 0, 6, .inl mL)), (m3, .inl (G.2.1 2, 6, .inl mD)), (amb, .inl (G.2.1 1, 12288, .inl fmb))] := hD
      refine lv_topi (fun x_3 ex_3 => ?_)
      replace hw := hw x_3 ex_3
      refine lv_istore (lv' := [(5, .int x_3), (0, .ref h), (1, .int k), (2, .int to), (3, .int fr), (4, .int cn)]) hx hb d_Pm_copy_45 hl (by decide) rfl (fun ls hl => ?_)
      refine lv_aload_n hx hb d_Pm_copy_47 rfl (lv_at hl 1 rfl) ?_
      refine lv_aload_n hx hb d_Pm_copy_48 rfl (lv_at hl 1 rfl) ?_
      refine va_get (D := G.1) (ci := 1) (v := .ref m0) (C := R_Pm) (T := T_Pm) (N := 12) hx hb hts in_Pm hown hK hP 0 rfl rfl 0 (by decide) (hts _ fl_Pm_14) (fun _ h9 => h9) rfl d_Pm_copy_49 ?_
      refine lv_iload_n hx hb d_Pm_copy_52 rfl (lv_at hl 2 rfl) ?_
      refine lv_iload_n hx hb d_Pm_copy_53 rfl (lv_at hl 3 rfl) ?_
      have hPc := hP.sub (ws' := []) [] rfl
      refine pu_l (va_runS (As := [.int to]) (rest := [.int k, .ref m0, .ref h]) ⟨hx, hb, hml, hown, hts⟩ (c_Pm_unsigned l G to) (va_cwS 1 hts (gi_S ml_Pm_74 sm_Pm_unsigned ini_Pm co_Pm_unsigned) rfl rfl rfl (by decide +kernel) ⟨Nat.le_of_ble_eq_true rfl, Nat.le_of_ble_eq_true rfl⟩) ⟨cp_blind, cp_pre hcx hS hPc⟩ rfl rfl hl.1 rfl (lv_room (Nat.le_of_ble_eq_true rfl)) d_Pm_copy_54 ⟨Nat.le_of_ble_eq_true rfl, Nat.le_of_ble_eq_true rfl⟩) hS hP (fun H locs hP hS => ?_)
      refine lv_iload hx hb d_Pm_copy_57 (lv_at hl 5 rfl) ?_
      have hPc := hP.sub (ws' := []) [] rfl
      refine pu_l (va_runS (As := [.int cn]) (rest := [.long (u32 to), .int k, .ref m0, .ref h]) ⟨hx, hb, hml, hown, hts⟩ (c_Pm_unsigned l G cn) (va_cwS 1 hts (gi_S ml_Pm_74 sm_Pm_unsigned ini_Pm co_Pm_unsigned) rfl rfl rfl (by decide +kernel) ⟨Nat.le_of_ble_eq_true rfl, Nat.le_of_ble_eq_true rfl⟩) ⟨cp_blind, cp_pre hcx hS hPc⟩ rfl rfl hl.1 rfl (lv_room (Nat.le_of_ble_eq_true rfl)) d_Pm_copy_59 ⟨Nat.le_of_ble_eq_true rfl, Nat.le_of_ble_eq_true rfl⟩) hS hP (fun H locs hP hS => ?_)
      refine lv_iconst (v := 4) hx hb d_Pm_copy_62 (by decide) ?_
      obtain ⟨h_4, hw⟩ := hw
      have hPc := hP.sub (ws' := [(h, .inr (1, [.ref m0, .ref aml, .ref amb, .ref t0, .ref atl, .ref att, .ref ate, .ref b0, .ref asb, .ref r0, .ref asr, .int 0])), (m0, .inr (0, [.int 12288, .ref m1, .ref m2, .ref m3, .int mC, .int mU])), (m1, .inl (G.2.1 0, 6, .inl mS)), (m2, .inl (G.2.1 0, 6, .inl mL)), (m3, .inl (G.2.1 2, 6, .inl mD))]) [0, 1, 2, 3, 4] rfl
      have hDc := hD.sub (ws' := [(h, .inr (1, [.ref m0, .ref aml, .ref amb, .ref t0, .ref atl, .ref att, .ref ate, .ref b0, .ref asb, .ref r0, .ref asr, .int 0])), (m0, .inr (0, [.int 12288, .ref m1, .ref m2, .ref m3, .int mC, .int mU])), (m1, .inl (G.2.1 0, 6, .inl mS)), (m2, .inl (G.2.1 0, 6, .inl mL)), (m3, .inl (G.2.1 2, 6, .inl mD))]) [0, 1, 2, 3, 4] (by decide) rfl
      have hFc := va_free (wc := [(h, .inr (1, [.ref m0, .ref aml, .ref amb, .ref t0, .ref atl, .ref att, .ref ate, .ref b0, .ref asb, .ref r0, .ref asr, .int 0])), (m0, .inr (0, [.int 12288, .ref m1, .ref m2, .ref m3, .int mC, .int mU])), (m1, .inl (G.2.1 0, 6, .inl mS)), (m2, .inl (G.2.1 0, 6, .inl mL)), (m3, .inl (G.2.1 2, 6, .inl mD))]) hD hS hA [0, 1, 2, 3, 4] rfl
      refine tx_i (tr_runV (As := [.ref m0, .int k, .long (u32 to), .long (u32 cn), .int 4]) (rest := []) ⟨hx, hb, hml, hown, hts⟩ (c_Pm_placeOf l hst G h m0 aml amb t0 atl att ate b0 asb r0 asr m0 m1 m2 m3 6 0 12288 mC mU mS mL mD k (u32 to) (u32 cn) 4 _ h_4) (cwV 5 hts (gi_V ml_Pm_113 im_Pm_placeOf se_Pm_placeOf ini_Pm co_Pm_placeOf) rfl rfl rfl (by decide +kernel) ⟨Nat.le_of_ble_eq_true rfl, Nat.le_of_ble_eq_true rfl⟩) ⟨cm_blind, va_recv hK hPc (ci := 1) (q0 := 0) rfl rfl, cm_pre hcx hS hPc hDc hFc⟩ rfl rfl hl.1 rfl (lv_room (Nat.le_of_ble_eq_true rfl)) d_Pm_copy_63 ⟨Nat.le_of_ble_eq_true rfl, Nat.le_of_ble_eq_true rfl⟩) hS hP hD hA [0, 1, 2, 3, 4] rfl (fun _ => rfl) (fun _ => rfl) (fun E9 u9 hp q9 ce9 H locs hP hD hS h91 h92 h93 => ?_) (fun r9 u9 H locs hp hP hD hS => ?_)
      · obtain ⟨hN, rfl, rfl⟩ := hp
        exact tr_pass (hnt _) hlocks h91 h92 h93 (fun t ht => ⟨(4, fmb), hw.2 hN, by have h9 := hP; rw [← ht] at h9; exact h9⟩) hS (Nat.le_of_ble_eq_true rfl) (Nat.le_of_ble_eq_true rfl)
      · obtain ⟨hN, e91, e92⟩ := hp; replace e91 := e91.symm; replace e92 := e92.symm; subst e91; subst e92
        replace hw := hw.1 hN
        have hP : va_P G.1 vwC [(h, .inr (1, [.ref m0, .ref aml, .ref amb, .ref t0, .ref atl, .ref att, .ref ate, .ref b0, .ref asb, .ref r0, .ref asr, .int 0])), (m0, .inr (0, [.int 12288, .ref m1, .ref m2, .ref m3, .int mC, .int mU])), (m1, .inl (G.2.1 0, 6, .inl mS)), (m2, .inl (G.2.1 0, 6, .inl mL)), (m3, .inl (G.2.1 2, 6, .inl mD)), (amb, .inl (G.2.1 1, 12288, .inl fmb))] H := hP
        have hD : va_D A [(h, .inr (1, [.ref m0, .ref aml, .ref amb, .ref t0, .ref atl, .ref att, .ref ate, .ref b0, .ref asb, .ref r0, .ref asr, .int 0])), (m0, .inr (0, [.int 12288, .ref m1, .ref m2, .ref m3, .int mC, .int mU])), (m1, .inl (G.2.1 0, 6, .inl mS)), (m2, .inl (G.2.1 0, 6, .inl mL)), (m3, .inl (G.2.1 2, 6, .inl mD)), (amb, .inl (G.2.1 1, 12288, .inl fmb))] := hD
        refine lv_topi (fun x_5 ex_5 => ?_)
        replace hw := hw x_5 ex_5
        refine lv_istore (lv' := [(6, .int x_5), (5, .int x_3), (0, .ref h), (1, .int k), (2, .int to), (3, .int fr), (4, .int cn)]) hx hb d_Pm_copy_66 hl (by decide) rfl (fun ls hl => ?_)
        refine lv_aload_n hx hb d_Pm_copy_68 rfl (lv_at hl 2 rfl) ?_
        refine va_get (D := G.1) (ci := 1) (v := .ref amb) (C := R_Pm) (T := T_Pm) (N := 12) hx hb hts in_Pm hown hK hP 0 rfl rfl 2 (by decide) (hts _ fl_Pm_22) (fun _ h9 => h9) rfl d_Pm_copy_69 ?_
        refine lv_iload hx hb d_Pm_copy_72 (lv_at hl 1 rfl) ?_
        refine lv_aload_n hx hb d_Pm_copy_74 rfl (lv_at hl 2 rfl) ?_
        refine va_get (D := G.1) (ci := 1) (v := .ref amb) (C := R_Pm) (T := T_Pm) (N := 12) hx hb hts in_Pm hown hK hP 0 rfl rfl 2 (by decide) (hts _ fl_Pm_22) (fun _ h9 => h9) rfl d_Pm_copy_75 ?_
        refine lv_iload hx hb d_Pm_copy_78 (lv_at hl 0 rfl) ?_
        refine lv_iload hx hb d_Pm_copy_80 (lv_at hl 6 rfl) ?_
        obtain ⟨h_6, h_7, h_8, h_9, h_10, h_11, hw⟩ := hw
        obtain ⟨a_12, ea_12⟩ : ∃ z, z = va_cpy fmb fmb x_3.toNatClampNeg x_5.toNatClampNeg cn.toNatClampNeg := ⟨_, rfl⟩
        replace hw := hw a_12 ea_12
        refine va_copyi (ty := .byte) hx hb (hml.trans hl.1.symm) hown (hts _ ml_Pm_84) (hts _ nt_arraycopy) (hts _ sm_arraycopy) (hts _ ini_System) hK hP hD hS 5 5 1 1 rfl rfl rfl rfl rfl h_6 h_7 h_8 h_9 h_10 h_11 (Nat.le_of_ble_eq_true rfl) (Nat.le_of_ble_eq_true rfl) d_Pm_copy_82 (fun H locs hP hD hS => ?_)
        rw [← ea_12] at hP hD
        have hP : va_P G.1 vwC [(h, .inr (1, [.ref m0, .ref aml, .ref amb, .ref t0, .ref atl, .ref att, .ref ate, .ref b0, .ref asb, .ref r0, .ref asr, .int 0])), (m0, .inr (0, [.int 12288, .ref m1, .ref m2, .ref m3, .int mC, .int mU])), (m1, .inl (G.2.1 0, 6, .inl mS)), (m2, .inl (G.2.1 0, 6, .inl mL)), (m3, .inl (G.2.1 2, 6, .inl mD)), (amb, .inl (G.2.1 1, 12288, .inl a_12))] H := hP
        have hD : va_D A [(h, .inr (1, [.ref m0, .ref aml, .ref amb, .ref t0, .ref atl, .ref att, .ref ate, .ref b0, .ref asb, .ref r0, .ref asr, .int 0])), (m0, .inr (0, [.int 12288, .ref m1, .ref m2, .ref m3, .int mC, .int mU])), (m1, .inl (G.2.1 0, 6, .inl mS)), (m2, .inl (G.2.1 0, 6, .inl mL)), (m3, .inl (G.2.1 2, 6, .inl mD)), (amb, .inl (G.2.1 1, 12288, .inl a_12))] := hD
        exact tr_ret (W.vret hx hb hr (fun t ht hW => ⟨⟨(0, a_12), rfl, hw, by have h9 := hP; rw [← ht] at h9; exact h9⟩, hS.F ht⟩) hS.2.2 d_Pm_copy_85)
  · replace hw := hw.2 c_1
    exact tr_throw hx hb hst hown (by decide +kernel) (by decide +kernel) (hcx.imp (fun V h => tw_ill_132 V h)) hS (hl.1.trans hml.symm) d_Pm_copy_16 d_Pm_copy_19 d_Pm_copy_20 d_Pm_copy_22 d_Pm_copy_25 (hnt _) (Nat.le_of_ble_eq_true rfl) (Nat.le_of_ble_eq_true rfl) (Nat.le_of_ble_eq_true rfl) (Nat.le_of_ble_eq_true rfl) hlocks (fun t h1 h2 => ⟨(0, fmb), hw, hP.kept fun k q hq => h2 q.1 (hP k q hq).lt⟩) hA (Nat.le_of_ble_eq_true rfl) (Nat.le_of_ble_eq_true rfl)
def wp_Pm_init (post : (Int32 × (Nat → Int32)) → Prop) (postx : String → (Int32 × (Nat → Int32)) → Prop) (trp : Int32) (mC : Int32) (mU : Int32) (mS : Nat → Int32) (mL : Nat → Int32) (mD : Nat → Int32) (bC : Int32) (bU : Int32) (bS : Nat → Int32) (bL : Nat → Int32) (bD : Nat → Int32) (fmb : Nat → Int32) (fsb : Nat → Int32) (k : Int32) (sg : Int32) (to : Int32) (fr : Int32) (cn : Int32) : Prop := ((ly_has mC k = 0 → (postx E_ill (0, fmb))) ∧ (¬ ly_has mC k = 0 → (((¬ ly_has bC sg = 0 → ((bC.toInt ≤ 24) ∧ (((lg_cmp ((u32 fr) + (u32 cn)) (ly_ln bC sg bL).toInt64 ≤ 0 → (∀ x_4 : Int32, x_4 = ly_st bC sg bS + (u32 fr).toInt32 → ((mC.toInt ≤ 6) ∧ (((lg_cmp ((u32 to) + (u32 cn)) (ly_ln mC k mL).toInt64 ≤ 0 → (∀ x_6 : Int32, x_6 = ly_st mC k mS + (u32 to).toInt32 → ((¬ x_4 < 0) ∧ (¬ x_6 < 0) ∧ (¬ cn < 0) ∧ (x_4.toNatClampNeg + cn.toNatClampNeg ≤ 600) ∧ (x_6.toNatClampNeg + cn.toNatClampNeg ≤ 12288) ∧ (∀ i, i < cn.toNatClampNeg → fits .byte (.int (fsb (x_4.toNatClampNeg + i))) = true) ∧ ∀ a_13 : Nat → Int32, a_13 = va_cpy fsb fmb x_4.toNatClampNeg x_6.toNatClampNeg cn.toNatClampNeg → (post (0, a_13))))) ∧ (¬ lg_cmp ((u32 to) + (u32 cn)) (ly_ln mC k mL).toInt64 ≤ 0 → (postx E_uns (4, fmb)))))))) ∧ (¬ lg_cmp ((u32 fr) + (u32 cn)) (ly_ln bC sg bL).toInt64 ≤ 0 → (postx E_uns (4, fmb))))))) ∧ (ly_has bC sg = 0 → (postx E_ill (0, fmb)))))))
set_option maxHeartbeats 4000000 in
set_option maxRecDepth 100000 in
theorem t_Pm_init (l : Launch) (hst : l.stackTraces = false) (G : cxT) (h : Nat) (m0 : Nat) (aml : Nat) (amb : Nat) (t0 : Nat) (atl : Nat) (att : Nat) (ate : Nat) (b0 : Nat) (asb : Nat) (r0 : Nat) (asr : Nat) (m1 : Nat) (m2 : Nat) (m3 : Nat) (b1 : Nat) (b2 : Nat) (b3 : Nat) (trp : Int32) (mC : Int32) (mU : Int32) (mS : Nat → Int32) (mL : Nat → Int32) (mD : Nat → Int32) (bC : Int32) (bU : Int32) (bS : Nat → Int32) (bL : Nat → Int32) (bD : Nat → Int32) (fmb : Nat → Int32) (fsb : Nat → Int32) (k : Int32) (sg : Int32) (to : Int32) (fr : Int32) (cn : Int32) (sz : Nat) (post : (Int32 × (Nat → Int32)) → Prop) (postx : String → (Int32 × (Nat → Int32)) → Prop) (hw : wp_Pm_init post postx trp mC mU mS mL mD bC bU bS bL bD fmb fsb k sg to fr cn) : tr_Met l y_Pm_init [.code y_Pm_init b_Pm_init 8 none] ({ frames := 8, cells := 2, slots := 12, locals := 140 } : Room) (cm G [.ref h, .int k, .int sg, .int to, .int fr, .int cn] [(h, .inr (1, [.ref m0, .ref aml, .ref amb, .ref t0, .ref atl, .ref att, .ref ate, .ref b0, .ref asb, .ref r0, .ref asr, .int trp])), (m0, .inr (0, [.int 12288, .ref m1, .ref m2, .ref m3, .int mC, .int mU])), (m1, .inl (G.2.1 0, 6, .inl mS)), (m2, .inl (G.2.1 0, 6, .inl mL)), (m3, .inl (G.2.1 2, 6, .inl mD)), (b0, .inr (0, [.int 600, .ref b1, .ref b2, .ref b3, .int bC, .int bU])), (b1, .inl (G.2.1 0, 24, .inl bS)), (b2, .inl (G.2.1 0, 24, .inl bL)), (b3, .inl (G.2.1 2, 24, .inl bD)), (amb, .inl (G.2.1 1, 12288, .inl fmb)), (asb, .inl (G.2.1 1, 600, .inl fsb))] sz) (va_Qv post (fun u t => va_P G.1 vwC [(h, .inr (1, [.ref m0, .ref aml, .ref amb, .ref t0, .ref atl, .ref att, .ref ate, .ref b0, .ref asb, .ref r0, .ref asr, .int u.1])), (m0, .inr (0, [.int 12288, .ref m1, .ref m2, .ref m3, .int mC, .int mU])), (m1, .inl (G.2.1 0, 6, .inl mS)), (m2, .inl (G.2.1 0, 6, .inl mL)), (m3, .inl (G.2.1 2, 6, .inl mD)), (b0, .inr (0, [.int 600, .ref b1, .ref b2, .ref b3, .int bC, .int bU])), (b1, .inl (G.2.1 0, 24, .inl bS)), (b2, .inl (G.2.1 0, 24, .inl bL)), (b3, .inl (G.2.1 2, 24, .inl bD)), (amb, .inl (G.2.1 1, 12288, .inl u.2)), (asb, .inl (G.2.1 1, 600, .inl fsb))] t.heap) (va_A [(h, .inr (1, [.ref m0, .ref aml, .ref amb, .ref t0, .ref atl, .ref att, .ref ate, .ref b0, .ref asb, .ref r0, .ref asr, .int trp])), (m0, .inr (0, [.int 12288, .ref m1, .ref m2, .ref m3, .int mC, .int mU])), (m1, .inl (G.2.1 0, 6, .inl mS)), (m2, .inl (G.2.1 0, 6, .inl mL)), (m3, .inl (G.2.1 2, 6, .inl mD)), (b0, .inr (0, [.int 600, .ref b1, .ref b2, .ref b3, .int bC, .int bU])), (b1, .inl (G.2.1 0, 24, .inl bS)), (b2, .inl (G.2.1 0, 24, .inl bL)), (b3, .inl (G.2.1 2, 24, .inl bD)), (amb, .inl (G.2.1 1, 12288, .inl fmb)), (asb, .inl (G.2.1 1, 600, .inl fsb))] sz)) (fun E t => ∃ u : Int32 × (Nat → Int32), postx E u ∧ va_P G.1 vwC [(h, .inr (1, [.ref m0, .ref aml, .ref amb, .ref t0, .ref atl, .ref att, .ref ate, .ref b0, .ref asb, .ref r0, .ref asr, .int u.1])), (m0, .inr (0, [.int 12288, .ref m1, .ref m2, .ref m3, .int mC, .int mU])), (m1, .inl (G.2.1 0, 6, .inl mS)), (m2, .inl (G.2.1 0, 6, .inl mL)), (m3, .inl (G.2.1 2, 6, .inl mD)), (b0, .inr (0, [.int 600, .ref b1, .ref b2, .ref b3, .int bC, .int bU])), (b1, .inl (G.2.1 0, 24, .inl bS)), (b2, .inl (G.2.1 0, 24, .inl bL)), (b3, .inl (G.2.1 2, 24, .inl bD)), (amb, .inl (G.2.1 1, 12288, .inl u.2)), (asb, .inl (G.2.1 1, 600, .inl fsb))] t.heap) (va_A [(h, .inr (1, [.ref m0, .ref aml, .ref amb, .ref t0, .ref atl, .ref att, .ref ate, .ref b0, .ref asb, .ref r0, .ref asr, .int trp])), (m0, .inr (0, [.int 12288, .ref m1, .ref m2, .ref m3, .int mC, .int mU])), (m1, .inl (G.2.1 0, 6, .inl mS)), (m2, .inl (G.2.1 0, 6, .inl mL)), (m3, .inl (G.2.1 2, 6, .inl mD)), (b0, .inr (0, [.int 600, .ref b1, .ref b2, .ref b3, .int bC, .int bU])), (b1, .inl (G.2.1 0, 24, .inl bS)), (b2, .inl (G.2.1 0, 24, .inl bL)), (b3, .inl (G.2.1 2, 24, .inl bD)), (amb, .inl (G.2.1 1, 12288, .inl fmb)), (asb, .inl (G.2.1 1, 600, .inl fsb))] sz) 2 12 := by
  refine tr_ofW (cc := b_Pm_init) (maxL := 8) (ret := none) (by decide +kernel) rfl ?_
  intro p e s m args below meth c s₁ B hml hv
  obtain ⟨rfl, hsz, hcx, hP, hD0⟩ := hv
  have hx := B.exec
  have hb := B.bytes
  have hr := B.returns
  have hlocks := B.notSynchronized
  have hown : s.vm.findClass R_Pm = some m.cls := findClass_of_methodNamed B.named
  have hnt := tr_nt (ws := [.code y_Pm_init b_Pm_init 8 none]) (rm := ({ frames := 8, cells := 2, slots := 12, locals := 140 } : Room)) B rfl
  subst hsz
  have hD := hD0.self (sz := s.heap.size)
  generalize hAe : va_A [(h, .inr (1, [.ref m0, .ref aml, .ref amb, .ref t0, .ref atl, .ref att, .ref ate, .ref b0, .ref asb, .ref r0, .ref asr, .int trp])), (m0, .inr (0, [.int 12288, .ref m1, .ref m2, .ref m3, .int mC, .int mU])), (m1, .inl (G.2.1 0, 6, .inl mS)), (m2, .inl (G.2.1 0, 6, .inl mL)), (m3, .inl (G.2.1 2, 6, .inl mD)), (b0, .inr (0, [.int 600, .ref b1, .ref b2, .ref b3, .int bC, .int bU])), (b1, .inl (G.2.1 0, 24, .inl bS)), (b2, .inl (G.2.1 0, 24, .inl bL)), (b3, .inl (G.2.1 2, 24, .inl bD)), (amb, .inl (G.2.1 1, 12288, .inl fmb)), (asb, .inl (G.2.1 1, 600, .inl fsb))] s.heap.size = A at hD hcx ⊢
  have hA : ∀ q : Nat, s.heap.size ≤ q → A q := fun q h => by rw [← hAe]; exact Or.inr h
  have hS : va_S A s.heap s.heap [] := va_S.rf
  have hts := hcx.now.1 [.ref h, .int k, .int sg, .int to, .int fr, .int cn].toArray
  have hK := hcx.now.2.1
  have hl := lv_entry ([.ref h, .int k, .int sg, .int to, .int fr, .int cn]) (n := 8) (Nat.le_of_ble_eq_true rfl)
  rw [lg_entry_eq]
  generalize (lg_sl ([.ref h, .int k, .int sg, .int to, .int fr, .int cn]) ++ List.replicate (8 - (lg_sl ([.ref h, .int k, .int sg, .int to, .int fr, .int cn])).length) Slot.unset).toArray = ls at hl ⊢
  have hl : lv_has ls 8 [(0, .ref h), (1, .int k), (2, .int sg), (3, .int to), (4, .int fr), (5, .int cn)] := hl
  unfold wp_Pm_init at hw
  refine lv_aload_n hx hb d_Pm_init_0 rfl (lv_at hl 0 rfl) ?_
  refine lv_iconst (v := 0) hx hb d_Pm_init_1 (by decide) ?_
  refine va_put (D := G.1) (ci := 1) (v := .int 0) (ty := (.int)) (C := R_Pm) (T := T_Pm) (N := 12) hx hb hts in_Pm ty_Pm tk_Pm nm_Pm hown hK hP hD hS 0 rfl rfl 11 (by decide) (hts _ fl_Pm_50) (fun _ h9 => h9) rfl (by decide +kernel) rfl rfl (Nat.le_of_ble_eq_true rfl) d_Pm_init_2 (fun H locs hP hD hS => ?_)
  have hP : va_P G.1 vwC [(h, .inr (1, [.ref m0, .ref aml, .ref amb, .ref t0, .ref atl, .ref att, .ref ate, .ref b0, .ref asb, .ref r0, .ref asr, .int 0])), (m0, .inr (0, [.int 12288, .ref m1, .ref m2, .ref m3, .int mC, .int mU])), (m1, .inl (G.2.1 0, 6, .inl mS)), (m2, .inl (G.2.1 0, 6, .inl mL)), (m3, .inl (G.2.1 2, 6, .inl mD)), (b0, .inr (0, [.int 600, .ref b1, .ref b2, .ref b3, .int bC, .int bU])), (b1, .inl (G.2.1 0, 24, .inl bS)), (b2, .inl (G.2.1 0, 24, .inl bL)), (b3, .inl (G.2.1 2, 24, .inl bD)), (amb, .inl (G.2.1 1, 12288, .inl fmb)), (asb, .inl (G.2.1 1, 600, .inl fsb))] H := hP
  have hD : va_D A [(h, .inr (1, [.ref m0, .ref aml, .ref amb, .ref t0, .ref atl, .ref att, .ref ate, .ref b0, .ref asb, .ref r0, .ref asr, .int 0])), (m0, .inr (0, [.int 12288, .ref m1, .ref m2, .ref m3, .int mC, .int mU])), (m1, .inl (G.2.1 0, 6, .inl mS)), (m2, .inl (G.2.1 0, 6, .inl mL)), (m3, .inl (G.2.1 2, 6, .inl mD)), (b0, .inr (0, [.int 600, .ref b1, .ref b2, .ref b3, .int bC, .int bU])), (b1, .inl (G.2.1 0, 24, .inl bS)), (b2, .inl (G.2.1 0, 24, .inl bL)), (b3, .inl (G.2.1 2, 24, .inl bD)), (amb, .inl (G.2.1 1, 12288, .inl fmb)), (asb, .inl (G.2.1 1, 600, .inl fsb))] := hD
  refine lv_aload_n hx hb d_Pm_init_5 rfl (lv_at hl 0 rfl) ?_
  refine va_get (D := G.1) (ci := 1) (v := .ref m0) (C := R_Pm) (T := T_Pm) (N := 12) hx hb hts in_Pm hown hK hP 0 rfl rfl 0 (by decide) (hts _ fl_Pm_14) (fun _ h9 => h9) rfl d_Pm_init_6 ?_
  refine lv_iload_n hx hb d_Pm_init_9 rfl (lv_at hl 1 rfl) ?_
  have hPc := hP.sub (ws' := [(m0, .inr (0, [.int 12288, .ref m1, .ref m2, .ref m3, .int mC, .int mU])), (m1, .inl (G.2.1 0, 6, .inl mS)), (m2, .inl (G.2.1 0, 6, .inl mL)), (m3, .inl (G.2.1 2, 6, .inl mD))]) [1, 2, 3, 4] rfl
  refine pu_i (va_runV (As := [.int k]) (rest := []) ⟨hx, hb, hml, hown, hts⟩ (c_Ly_has l G m0 m1 m2 m3 6 12288 mC mU mS mL mD k) (cwV 1 hts (gi_V ml_Pm_67 im_Ly_has se_Ly_has ini_Ly co_Ly_has) rfl rfl rfl (by decide +kernel) ⟨Nat.le_of_ble_eq_true rfl, Nat.le_of_ble_eq_true rfl⟩) ⟨cp_blind, va_recv hK hPc (ci := 0) (q0 := 0) rfl rfl, cp_pre hcx hS hPc⟩ rfl rfl hl.1 rfl (lv_room (Nat.le_of_ble_eq_true rfl)) d_Pm_init_10 ⟨Nat.le_of_ble_eq_true rfl, Nat.le_of_ble_eq_true rfl⟩) hS hP (fun H locs hP hS => ?_)
  refine lv_if_eq (tgt := 27) hx hb d_Pm_init_13 (by decide) (fun c_1 => ?_) (fun c_1 => ?_)
  · replace hw := hw.1 c_1
    exact tr_throw hx hb hst hown (by decide +kernel) (by decide +kernel) (hcx.imp (fun V h => tw_ill_134 V h)) hS (hl.1.trans hml.symm) d_Pm_init_27 d_Pm_init_30 d_Pm_init_31 d_Pm_init_33 d_Pm_init_36 (hnt _) (Nat.le_of_ble_eq_true rfl) (Nat.le_of_ble_eq_true rfl) (Nat.le_of_ble_eq_true rfl) (Nat.le_of_ble_eq_true rfl) hlocks (fun t h1 h2 => ⟨(0, fmb), hw, hP.kept fun k q hq => h2 q.1 (hP k q hq).lt⟩) hA (Nat.le_of_ble_eq_true rfl) (Nat.le_of_ble_eq_true rfl)
  · replace hw := hw.2 c_1
    refine lv_aload_n hx hb d_Pm_init_16 rfl (lv_at hl 0 rfl) ?_
    refine va_get (D := G.1) (ci := 1) (v := .ref b0) (C := R_Pm) (T := T_Pm) (N := 12) hx hb hts in_Pm hown hK hP 0 rfl rfl 7 (by decide) (hts _ fl_Pm_38) (fun _ h9 => h9) rfl d_Pm_init_17 ?_
    refine lv_iload_n hx hb d_Pm_init_20 rfl (lv_at hl 2 rfl) ?_
    have hPc := hP.sub (ws' := [(b0, .inr (0, [.int 600, .ref b1, .ref b2, .ref b3, .int bC, .int bU])), (b1, .inl (G.2.1 0, 24, .inl bS)), (b2, .inl (G.2.1 0, 24, .inl bL)), (b3, .inl (G.2.1 2, 24, .inl bD))]) [5, 6, 7, 8] rfl
    refine pu_i (va_runV (As := [.int sg]) (rest := []) ⟨hx, hb, hml, hown, hts⟩ (c_Ly_has l G b0 b1 b2 b3 24 600 bC bU bS bL bD sg) (cwV 1 hts (gi_V ml_Pm_67 im_Ly_has se_Ly_has ini_Ly co_Ly_has) rfl rfl rfl (by decide +kernel) ⟨Nat.le_of_ble_eq_true rfl, Nat.le_of_ble_eq_true rfl⟩) ⟨cp_blind, va_recv hK hPc (ci := 0) (q0 := 0) rfl rfl, cp_pre hcx hS hPc⟩ rfl rfl hl.1 rfl (lv_room (Nat.le_of_ble_eq_true rfl)) d_Pm_init_21 ⟨Nat.le_of_ble_eq_true rfl, Nat.le_of_ble_eq_true rfl⟩) hS hP (fun H locs hP hS => ?_)
    refine lv_if_ne (tgt := 37) hx hb d_Pm_init_24 (by decide) (fun c_2 => ?_) (fun c_2 => ?_)
    · replace hw := hw.1 c_2
      refine lv_aload_n hx hb d_Pm_init_37 rfl (lv_at hl 0 rfl) ?_
      refine lv_aload_n hx hb d_Pm_init_38 rfl (lv_at hl 0 rfl) ?_
      refine va_get (D := G.1) (ci := 1) (v := .ref b0) (C := R_Pm) (T := T_Pm) (N := 12) hx hb hts in_Pm hown hK hP 0 rfl rfl 7 (by decide) (hts _ fl_Pm_38) (fun _ h9 => h9) rfl d_Pm_init_39 ?_
      refine lv_iload_n hx hb d_Pm_init_42 rfl (lv_at hl 2 rfl) ?_
      refine lv_iload hx hb d_Pm_init_43 (lv_at hl 4 rfl) ?_
      have hPc := hP.sub (ws' := []) [] rfl
      refine pu_l (va_runS (As := [.int fr]) (rest := [.int sg, .ref b0, .ref h]) ⟨hx, hb, hml, hown, hts⟩ (c_Pm_unsigned l G fr) (va_cwS 1 hts (gi_S ml_Pm_74 sm_Pm_unsigned ini_Pm co_Pm_unsigned) rfl rfl rfl (by decide +kernel) ⟨Nat.le_of_ble_eq_true rfl, Nat.le_of_ble_eq_true rfl⟩) ⟨cp_blind, cp_pre hcx hS hPc⟩ rfl rfl hl.1 rfl (lv_room (Nat.le_of_ble_eq_true rfl)) d_Pm_init_45 ⟨Nat.le_of_ble_eq_true rfl, Nat.le_of_ble_eq_true rfl⟩) hS hP (fun H locs hP hS => ?_)
      refine lv_iload hx hb d_Pm_init_48 (lv_at hl 5 rfl) ?_
      have hPc := hP.sub (ws' := []) [] rfl
      refine pu_l (va_runS (As := [.int cn]) (rest := [.long (u32 fr), .int sg, .ref b0, .ref h]) ⟨hx, hb, hml, hown, hts⟩ (c_Pm_unsigned l G cn) (va_cwS 1 hts (gi_S ml_Pm_74 sm_Pm_unsigned ini_Pm co_Pm_unsigned) rfl rfl rfl (by decide +kernel) ⟨Nat.le_of_ble_eq_true rfl, Nat.le_of_ble_eq_true rfl⟩) ⟨cp_blind, cp_pre hcx hS hPc⟩ rfl rfl hl.1 rfl (lv_room (Nat.le_of_ble_eq_true rfl)) d_Pm_init_50 ⟨Nat.le_of_ble_eq_true rfl, Nat.le_of_ble_eq_true rfl⟩) hS hP (fun H locs hP hS => ?_)
      refine lv_iconst (v := 4) hx hb d_Pm_init_53 (by decide) ?_
      obtain ⟨h_3, hw⟩ := hw
      have hPc := hP.sub (ws' := [(h, .inr (1, [.ref m0, .ref aml, .ref amb, .ref t0, .ref atl, .ref att, .ref ate, .ref b0, .ref asb, .ref r0, .ref asr, .int 0])), (b0, .inr (0, [.int 600, .ref b1, .ref b2, .ref b3, .int bC, .int bU])), (b1, .inl (G.2.1 0, 24, .inl bS)), (b2, .inl (G.2.1 0, 24, .inl bL)), (b3, .inl (G.2.1 2, 24, .inl bD))]) [0, 5, 6, 7, 8] rfl
      have hDc := hD.sub (ws' := [(h, .inr (1, [.ref m0, .ref aml, .ref amb, .ref t0, .ref atl, .ref att, .ref ate, .ref b0, .ref asb, .ref r0, .ref asr, .int 0])), (b0, .inr (0, [.int 600, .ref b1, .ref b2, .ref b3, .int bC, .int bU])), (b1, .inl (G.2.1 0, 24, .inl bS)), (b2, .inl (G.2.1 0, 24, .inl bL)), (b3, .inl (G.2.1 2, 24, .inl bD))]) [0, 5, 6, 7, 8] (by decide) rfl
      have hFc := va_free (wc := [(h, .inr (1, [.ref m0, .ref aml, .ref amb, .ref t0, .ref atl, .ref att, .ref ate, .ref b0, .ref asb, .ref r0, .ref asr, .int 0])), (b0, .inr (0, [.int 600, .ref b1, .ref b2, .ref b3, .int bC, .int bU])), (b1, .inl (G.2.1 0, 24, .inl bS)), (b2, .inl (G.2.1 0, 24, .inl bL)), (b3, .inl (G.2.1 2, 24, .inl bD))]) hD hS hA [0, 5, 6, 7, 8] rfl
      refine tx_i (tr_runV (As := [.ref b0, .int sg, .long (u32 fr), .long (u32 cn), .int 4]) (rest := []) ⟨hx, hb, hml, hown, hts⟩ (c_Pm_placeOf l hst G h m0 aml amb t0 atl att ate b0 asb r0 asr b0 b1 b2 b3 24 0 600 bC bU bS bL bD sg (u32 fr) (u32 cn) 4 _ h_3) (cwV 5 hts (gi_V ml_Pm_113 im_Pm_placeOf se_Pm_placeOf ini_Pm co_Pm_placeOf) rfl rfl rfl (by decide +kernel) ⟨Nat.le_of_ble_eq_true rfl, Nat.le_of_ble_eq_true rfl⟩) ⟨cm_blind, va_recv hK hPc (ci := 1) (q0 := 0) rfl rfl, cm_pre hcx hS hPc hDc hFc⟩ rfl rfl hl.1 rfl (lv_room (Nat.le_of_ble_eq_true rfl)) d_Pm_init_54 ⟨Nat.le_of_ble_eq_true rfl, Nat.le_of_ble_eq_true rfl⟩) hS hP hD hA [0, 5, 6, 7, 8] rfl (fun _ => rfl) (fun _ => rfl) (fun E9 u9 hp q9 ce9 H locs hP hD hS h91 h92 h93 => ?_) (fun r9 u9 H locs hp hP hD hS => ?_)
      · obtain ⟨hN, rfl, rfl⟩ := hp
        exact tr_pass (hnt _) hlocks h91 h92 h93 (fun t ht => ⟨(4, fmb), hw.2 hN, by have h9 := hP; rw [← ht] at h9; exact h9⟩) hS (Nat.le_of_ble_eq_true rfl) (Nat.le_of_ble_eq_true rfl)
      · obtain ⟨hN, e91, e92⟩ := hp; replace e91 := e91.symm; replace e92 := e92.symm; subst e91; subst e92
        replace hw := hw.1 hN
        have hP : va_P G.1 vwC [(h, .inr (1, [.ref m0, .ref aml, .ref amb, .ref t0, .ref atl, .ref att, .ref ate, .ref b0, .ref asb, .ref r0, .ref asr, .int 0])), (m0, .inr (0, [.int 12288, .ref m1, .ref m2, .ref m3, .int mC, .int mU])), (m1, .inl (G.2.1 0, 6, .inl mS)), (m2, .inl (G.2.1 0, 6, .inl mL)), (m3, .inl (G.2.1 2, 6, .inl mD)), (b0, .inr (0, [.int 600, .ref b1, .ref b2, .ref b3, .int bC, .int bU])), (b1, .inl (G.2.1 0, 24, .inl bS)), (b2, .inl (G.2.1 0, 24, .inl bL)), (b3, .inl (G.2.1 2, 24, .inl bD)), (amb, .inl (G.2.1 1, 12288, .inl fmb)), (asb, .inl (G.2.1 1, 600, .inl fsb))] H := hP
        have hD : va_D A [(h, .inr (1, [.ref m0, .ref aml, .ref amb, .ref t0, .ref atl, .ref att, .ref ate, .ref b0, .ref asb, .ref r0, .ref asr, .int 0])), (m0, .inr (0, [.int 12288, .ref m1, .ref m2, .ref m3, .int mC, .int mU])), (m1, .inl (G.2.1 0, 6, .inl mS)), (m2, .inl (G.2.1 0, 6, .inl mL)), (m3, .inl (G.2.1 2, 6, .inl mD)), (b0, .inr (0, [.int 600, .ref b1, .ref b2, .ref b3, .int bC, .int bU])), (b1, .inl (G.2.1 0, 24, .inl bS)), (b2, .inl (G.2.1 0, 24, .inl bL)), (b3, .inl (G.2.1 2, 24, .inl bD)), (amb, .inl (G.2.1 1, 12288, .inl fmb)), (asb, .inl (G.2.1 1, 600, .inl fsb))] := hD
        refine lv_topi (fun x_4 ex_4 => ?_)
        replace hw := hw x_4 ex_4
        refine lv_istore (lv' := [(6, .int x_4), (0, .ref h), (1, .int k), (2, .int sg), (3, .int to), (4, .int fr), (5, .int cn)]) hx hb d_Pm_init_57 hl (by decide) rfl (fun ls hl => ?_)
        refine lv_aload_n hx hb d_Pm_init_59 rfl (lv_at hl 1 rfl) ?_
        refine lv_aload_n hx hb d_Pm_init_60 rfl (lv_at hl 1 rfl) ?_
        refine va_get (D := G.1) (ci := 1) (v := .ref m0) (C := R_Pm) (T := T_Pm) (N := 12) hx hb hts in_Pm hown hK hP 0 rfl rfl 0 (by decide) (hts _ fl_Pm_14) (fun _ h9 => h9) rfl d_Pm_init_61 ?_
        refine lv_iload_n hx hb d_Pm_init_64 rfl (lv_at hl 2 rfl) ?_
        refine lv_iload_n hx hb d_Pm_init_65 rfl (lv_at hl 4 rfl) ?_
        have hPc := hP.sub (ws' := []) [] rfl
        refine pu_l (va_runS (As := [.int to]) (rest := [.int k, .ref m0, .ref h]) ⟨hx, hb, hml, hown, hts⟩ (c_Pm_unsigned l G to) (va_cwS 1 hts (gi_S ml_Pm_74 sm_Pm_unsigned ini_Pm co_Pm_unsigned) rfl rfl rfl (by decide +kernel) ⟨Nat.le_of_ble_eq_true rfl, Nat.le_of_ble_eq_true rfl⟩) ⟨cp_blind, cp_pre hcx hS hPc⟩ rfl rfl hl.1 rfl (lv_room (Nat.le_of_ble_eq_true rfl)) d_Pm_init_66 ⟨Nat.le_of_ble_eq_true rfl, Nat.le_of_ble_eq_true rfl⟩) hS hP (fun H locs hP hS => ?_)
        refine lv_iload hx hb d_Pm_init_69 (lv_at hl 6 rfl) ?_
        have hPc := hP.sub (ws' := []) [] rfl
        refine pu_l (va_runS (As := [.int cn]) (rest := [.long (u32 to), .int k, .ref m0, .ref h]) ⟨hx, hb, hml, hown, hts⟩ (c_Pm_unsigned l G cn) (va_cwS 1 hts (gi_S ml_Pm_74 sm_Pm_unsigned ini_Pm co_Pm_unsigned) rfl rfl rfl (by decide +kernel) ⟨Nat.le_of_ble_eq_true rfl, Nat.le_of_ble_eq_true rfl⟩) ⟨cp_blind, cp_pre hcx hS hPc⟩ rfl rfl hl.1 rfl (lv_room (Nat.le_of_ble_eq_true rfl)) d_Pm_init_71 ⟨Nat.le_of_ble_eq_true rfl, Nat.le_of_ble_eq_true rfl⟩) hS hP (fun H locs hP hS => ?_)
        refine lv_iconst (v := 4) hx hb d_Pm_init_74 (by decide) ?_
        obtain ⟨h_5, hw⟩ := hw
        have hPc := hP.sub (ws' := [(h, .inr (1, [.ref m0, .ref aml, .ref amb, .ref t0, .ref atl, .ref att, .ref ate, .ref b0, .ref asb, .ref r0, .ref asr, .int 0])), (m0, .inr (0, [.int 12288, .ref m1, .ref m2, .ref m3, .int mC, .int mU])), (m1, .inl (G.2.1 0, 6, .inl mS)), (m2, .inl (G.2.1 0, 6, .inl mL)), (m3, .inl (G.2.1 2, 6, .inl mD))]) [0, 1, 2, 3, 4] rfl
        have hDc := hD.sub (ws' := [(h, .inr (1, [.ref m0, .ref aml, .ref amb, .ref t0, .ref atl, .ref att, .ref ate, .ref b0, .ref asb, .ref r0, .ref asr, .int 0])), (m0, .inr (0, [.int 12288, .ref m1, .ref m2, .ref m3, .int mC, .int mU])), (m1, .inl (G.2.1 0, 6, .inl mS)), (m2, .inl (G.2.1 0, 6, .inl mL)), (m3, .inl (G.2.1 2, 6, .inl mD))]) [0, 1, 2, 3, 4] (by decide) rfl
        have hFc := va_free (wc := [(h, .inr (1, [.ref m0, .ref aml, .ref amb, .ref t0, .ref atl, .ref att, .ref ate, .ref b0, .ref asb, .ref r0, .ref asr, .int 0])), (m0, .inr (0, [.int 12288, .ref m1, .ref m2, .ref m3, .int mC, .int mU])), (m1, .inl (G.2.1 0, 6, .inl mS)), (m2, .inl (G.2.1 0, 6, .inl mL)), (m3, .inl (G.2.1 2, 6, .inl mD))]) hD hS hA [0, 1, 2, 3, 4] rfl
        refine tx_i (tr_runV (As := [.ref m0, .int k, .long (u32 to), .long (u32 cn), .int 4]) (rest := []) ⟨hx, hb, hml, hown, hts⟩ (c_Pm_placeOf l hst G h m0 aml amb t0 atl att ate b0 asb r0 asr m0 m1 m2 m3 6 0 12288 mC mU mS mL mD k (u32 to) (u32 cn) 4 _ h_5) (cwV 5 hts (gi_V ml_Pm_113 im_Pm_placeOf se_Pm_placeOf ini_Pm co_Pm_placeOf) rfl rfl rfl (by decide +kernel) ⟨Nat.le_of_ble_eq_true rfl, Nat.le_of_ble_eq_true rfl⟩) ⟨cm_blind, va_recv hK hPc (ci := 1) (q0 := 0) rfl rfl, cm_pre hcx hS hPc hDc hFc⟩ rfl rfl hl.1 rfl (lv_room (Nat.le_of_ble_eq_true rfl)) d_Pm_init_75 ⟨Nat.le_of_ble_eq_true rfl, Nat.le_of_ble_eq_true rfl⟩) hS hP hD hA [0, 1, 2, 3, 4] rfl (fun _ => rfl) (fun _ => rfl) (fun E9 u9 hp q9 ce9 H locs hP hD hS h91 h92 h93 => ?_) (fun r9 u9 H locs hp hP hD hS => ?_)
        · obtain ⟨hN, rfl, rfl⟩ := hp
          exact tr_pass (hnt _) hlocks h91 h92 h93 (fun t ht => ⟨(4, fmb), hw.2 hN, by have h9 := hP; rw [← ht] at h9; exact h9⟩) hS (Nat.le_of_ble_eq_true rfl) (Nat.le_of_ble_eq_true rfl)
        · obtain ⟨hN, e91, e92⟩ := hp; replace e91 := e91.symm; replace e92 := e92.symm; subst e91; subst e92
          replace hw := hw.1 hN
          have hP : va_P G.1 vwC [(h, .inr (1, [.ref m0, .ref aml, .ref amb, .ref t0, .ref atl, .ref att, .ref ate, .ref b0, .ref asb, .ref r0, .ref asr, .int 0])), (m0, .inr (0, [.int 12288, .ref m1, .ref m2, .ref m3, .int mC, .int mU])), (m1, .inl (G.2.1 0, 6, .inl mS)), (m2, .inl (G.2.1 0, 6, .inl mL)), (m3, .inl (G.2.1 2, 6, .inl mD)), (b0, .inr (0, [.int 600, .ref b1, .ref b2, .ref b3, .int bC, .int bU])), (b1, .inl (G.2.1 0, 24, .inl bS)), (b2, .inl (G.2.1 0, 24, .inl bL)), (b3, .inl (G.2.1 2, 24, .inl bD)), (amb, .inl (G.2.1 1, 12288, .inl fmb)), (asb, .inl (G.2.1 1, 600, .inl fsb))] H := hP
          have hD : va_D A [(h, .inr (1, [.ref m0, .ref aml, .ref amb, .ref t0, .ref atl, .ref att, .ref ate, .ref b0, .ref asb, .ref r0, .ref asr, .int 0])), (m0, .inr (0, [.int 12288, .ref m1, .ref m2, .ref m3, .int mC, .int mU])), (m1, .inl (G.2.1 0, 6, .inl mS)), (m2, .inl (G.2.1 0, 6, .inl mL)), (m3, .inl (G.2.1 2, 6, .inl mD)), (b0, .inr (0, [.int 600, .ref b1, .ref b2, .ref b3, .int bC, .int bU])), (b1, .inl (G.2.1 0, 24, .inl bS)), (b2, .inl (G.2.1 0, 24, .inl bL)), (b3, .inl (G.2.1 2, 24, .inl bD)), (amb, .inl (G.2.1 1, 12288, .inl fmb)), (asb, .inl (G.2.1 1, 600, .inl fsb))] := hD
          refine lv_topi (fun x_6 ex_6 => ?_)
          replace hw := hw x_6 ex_6
          refine lv_istore (lv' := [(7, .int x_6), (6, .int x_4), (0, .ref h), (1, .int k), (2, .int sg), (3, .int to), (4, .int fr), (5, .int cn)]) hx hb d_Pm_init_78 hl (by decide) rfl (fun ls hl => ?_)
          refine lv_aload_n hx hb d_Pm_init_80 rfl (lv_at hl 2 rfl) ?_
          refine va_get (D := G.1) (ci := 1) (v := .ref asb) (C := R_Pm) (T := T_Pm) (N := 12) hx hb hts in_Pm hown hK hP 0 rfl rfl 8 (by decide) (hts _ fl_Pm_41) (fun _ h9 => h9) rfl d_Pm_init_81 ?_
          refine lv_iload hx hb d_Pm_init_84 (lv_at hl 1 rfl) ?_
          refine lv_aload_n hx hb d_Pm_init_86 rfl (lv_at hl 2 rfl) ?_
          refine va_get (D := G.1) (ci := 1) (v := .ref amb) (C := R_Pm) (T := T_Pm) (N := 12) hx hb hts in_Pm hown hK hP 0 rfl rfl 2 (by decide) (hts _ fl_Pm_22) (fun _ h9 => h9) rfl d_Pm_init_87 ?_
          refine lv_iload hx hb d_Pm_init_90 (lv_at hl 0 rfl) ?_
          refine lv_iload hx hb d_Pm_init_92 (lv_at hl 7 rfl) ?_
          obtain ⟨h_7, h_8, h_9, h_10, h_11, h_12, hw⟩ := hw
          obtain ⟨a_13, ea_13⟩ : ∃ z, z = va_cpy fsb fmb x_4.toNatClampNeg x_6.toNatClampNeg cn.toNatClampNeg := ⟨_, rfl⟩
          replace hw := hw a_13 ea_13
          refine va_copyi (ty := .byte) hx hb (hml.trans hl.1.symm) hown (hts _ ml_Pm_84) (hts _ nt_arraycopy) (hts _ sm_arraycopy) (hts _ ini_System) hK hP hD hS 10 9 1 1 rfl rfl rfl rfl rfl h_7 h_8 h_9 h_10 h_11 h_12 (Nat.le_of_ble_eq_true rfl) (Nat.le_of_ble_eq_true rfl) d_Pm_init_94 (fun H locs hP hD hS => ?_)
          rw [← ea_13] at hP hD
          have hP : va_P G.1 vwC [(h, .inr (1, [.ref m0, .ref aml, .ref amb, .ref t0, .ref atl, .ref att, .ref ate, .ref b0, .ref asb, .ref r0, .ref asr, .int 0])), (m0, .inr (0, [.int 12288, .ref m1, .ref m2, .ref m3, .int mC, .int mU])), (m1, .inl (G.2.1 0, 6, .inl mS)), (m2, .inl (G.2.1 0, 6, .inl mL)), (m3, .inl (G.2.1 2, 6, .inl mD)), (b0, .inr (0, [.int 600, .ref b1, .ref b2, .ref b3, .int bC, .int bU])), (b1, .inl (G.2.1 0, 24, .inl bS)), (b2, .inl (G.2.1 0, 24, .inl bL)), (b3, .inl (G.2.1 2, 24, .inl bD)), (amb, .inl (G.2.1 1, 12288, .inl a_13)), (asb, .inl (G.2.1 1, 600, .inl fsb))] H := hP
          have hD : va_D A [(h, .inr (1, [.ref m0, .ref aml, .ref amb, .ref t0, .ref atl, .ref att, .ref ate, .ref b0, .ref asb, .ref r0, .ref asr, .int 0])), (m0, .inr (0, [.int 12288, .ref m1, .ref m2, .ref m3, .int mC, .int mU])), (m1, .inl (G.2.1 0, 6, .inl mS)), (m2, .inl (G.2.1 0, 6, .inl mL)), (m3, .inl (G.2.1 2, 6, .inl mD)), (b0, .inr (0, [.int 600, .ref b1, .ref b2, .ref b3, .int bC, .int bU])), (b1, .inl (G.2.1 0, 24, .inl bS)), (b2, .inl (G.2.1 0, 24, .inl bL)), (b3, .inl (G.2.1 2, 24, .inl bD)), (amb, .inl (G.2.1 1, 12288, .inl a_13)), (asb, .inl (G.2.1 1, 600, .inl fsb))] := hD
          exact tr_ret (W.vret hx hb hr (fun t ht hW => ⟨⟨(0, a_13), rfl, hw, by have h9 := hP; rw [← ht] at h9; exact h9⟩, hS.F ht⟩) hS.2.2 d_Pm_init_97)
    · replace hw := hw.2 c_2
      exact tr_throw hx hb hst hown (by decide +kernel) (by decide +kernel) (hcx.imp (fun V h => tw_ill_134 V h)) hS (hl.1.trans hml.symm) d_Pm_init_27 d_Pm_init_30 d_Pm_init_31 d_Pm_init_33 d_Pm_init_36 (hnt _) (Nat.le_of_ble_eq_true rfl) (Nat.le_of_ble_eq_true rfl) (Nat.le_of_ble_eq_true rfl) (Nat.le_of_ble_eq_true rfl) hlocks (fun t h1 h2 => ⟨(0, fmb), hw, hP.kept fun k q hq => h2 q.1 (hP k q hq).lt⟩) hA (Nat.le_of_ble_eq_true rfl) (Nat.le_of_ble_eq_true rfl)
