def wp_Md_size (post : Int32 → Int32 → Prop) (vth : Int32) (vtp : Int32) (vme : Int32) (vta : Int32) (vpl : Int32) (vel : Int32) (vsg : Int32) (vus : Int32) (vrw : Int32) (vur : Int32) (vwr : Int32) (vch : Int32) (gpg : Nat → Int32) (gli : Nat → Int32) (gty : Nat → Int32) (gen : Nat → Int32) (gtl : Nat → Int32) (gmn : Nat → Int32) (gdr : Nat → Int32) (grm : Nat → Int32) (grd : Nat → Int32) (wh : Int32) (k : Int32) : Prop := ((wh = 0 → (((ly_has vme k = 0 → (post (-1) 0)) ∧ (¬ ly_has vme k = 0 → ((vp_in k 6) ∧ (post (gpg k.toNatClampNeg) 0)))))) ∧ (¬ wh = 0 → (((wh = 1 → (((ly_has vme k = 0 → (post (-1) 0)) ∧ (¬ ly_has vme k = 0 → ((vp_in k 6) ∧ (post (gli k.toNatClampNeg) 0)))))) ∧ (¬ wh = 1 → (((wh = 2 → (((ly_has vta k = 0 → (post (-1) 0)) ∧ (¬ ly_has vta k = 0 → ((vp_in k 6) ∧ (post (gen k.toNatClampNeg) 0)))))) ∧ (¬ wh = 2 → (((wh = 3 → (((ly_has vta k = 0 → (post (-1) 0)) ∧ (¬ ly_has vta k = 0 → ((vp_in k 6) ∧ (post (gtl k.toNatClampNeg) 0)))))) ∧ (¬ wh = 3 → (((wh = 4 → (((ly_has vta k = 0 → (post (-1) 0)) ∧ (¬ ly_has vta k = 0 → ((vp_in k 6) ∧ (post (gty k.toNatClampNeg) 0)))))) ∧ (¬ wh = 4 → (((wh = 5 → (((k < 0 → (post (-1) 0)) ∧ (¬ k < 0 → (((k < vsg → ((vp_in k 24) ∧ (((gdr k.toNatClampNeg = 0 → ((vp_in k 24) ∧ (post (gmn k.toNatClampNeg) 0))) ∧ (¬ gdr k.toNatClampNeg = 0 → (post 0 0)))))) ∧ (¬ k < vsg → (post (-1) 0)))))))) ∧ (¬ wh = 5 → (((wh = 6 → (((k < 0 → (post (-1) 0)) ∧ (¬ k < 0 → (((k < vrw → ((vp_in k 24) ∧ (((grd k.toNatClampNeg = 0 → ((vp_in k 24) ∧ (post (grm k.toNatClampNeg) 0))) ∧ (¬ grd k.toNatClampNeg = 0 → (post 0 0)))))) ∧ (¬ k < vrw → (post (-1) 0)))))))) ∧ (¬ wh = 6 → (((wh = 7 → (post vpl 0)) ∧ (¬ wh = 7 → (((wh = 8 → (post vel 0)) ∧ (¬ wh = 8 → (((wh = 9 → (post vme 0)) ∧ (¬ wh = 9 → (((wh = 10 → (post vta 0)) ∧ (¬ wh = 10 → (((wh = 11 → (post vsg 0)) ∧ (¬ wh = 11 → (((wh = 12 → (post vrw 0)) ∧ (¬ wh = 12 → (post (-1) 0)))))))))))))))))))))))))))))))))))))))
set_option maxHeartbeats 4000000 in
set_option maxRecDepth 100000 in
theorem t_Md_size (l : Launch) (G : cxT) (h : Nat) (xpg : Nat) (xli : Nat) (xty : Nat) (xen : Nat) (xtl : Nat) (xst : Nat) (xmn : Nat) (xdr : Nat) (xhe : Nat) (xrs : Nat) (xrm : Nat) (xrd : Nat) (xhr : Nat) (xki : Nat) (xin : Nat) (xpl : Nat) (xle : Nat) (xso : Nat) (xva : Nat) (xck : Nat) (xci : Nat) (xcp : Nat) (xcl : Nat) (xcs : Nat) (xcv : Nat) (vth : Int32) (vtp : Int32) (vme : Int32) (vta : Int32) (vpl : Int32) (vel : Int32) (vsg : Int32) (vus : Int32) (vrw : Int32) (vur : Int32) (vwr : Int32) (vch : Int32) (gpg : Nat → Int32) (gli : Nat → Int32) (gty : Nat → Int32) (gen : Nat → Int32) (gtl : Nat → Int32) (gmn : Nat → Int32) (gdr : Nat → Int32) (grm : Nat → Int32) (grd : Nat → Int32) (wh : Int32) (k : Int32) (sz : Nat) (post : Int32 → Int32 → Prop) (hw : wp_Md_size post vth vtp vme vta vpl vel vsg vus vrw vur vwr vch gpg gli gty gen gtl gmn gdr grm grd wh k) : Met l y_Md_size [.code y_Md_size b_Md_size 3 (some .int)] ({ frames := 4, cells := 0, slots := 0, locals := 140 } : Room) (cm G [.ref h, .int wh, .int k] [(h, .inr (2, [.int vth, .int vtp, .int vme, .int vta, .int vpl, .int vel, .ref xpg, .ref xli, .ref xty, .ref xen, .ref xtl, .int vsg, .int vus, .int vrw, .int vur, .ref xst, .ref xmn, .ref xdr, .ref xhe, .ref xrs, .ref xrm, .ref xrd, .ref xhr, .int vwr, .int vch, .ref xki, .ref xin, .ref xpl, .ref xle, .ref xso, .ref xva, .ref xck, .ref xci, .ref xcp, .ref xcl, .ref xcs, .ref xcv])), (xpg, .inl (G.2.1 0, 6, .inl gpg)), (xli, .inl (G.2.1 0, 6, .inl gli)), (xty, .inl (G.2.1 0, 6, .inl gty)), (xen, .inl (G.2.1 0, 6, .inl gen)), (xtl, .inl (G.2.1 0, 6, .inl gtl)), (xmn, .inl (G.2.1 0, 24, .inl gmn)), (xdr, .inl (G.2.1 2, 24, .inl gdr)), (xrm, .inl (G.2.1 0, 24, .inl grm)), (xrd, .inl (G.2.1 2, 24, .inl grd))] sz) (va_Qi post (fun u t => va_P G.1 vwC [(h, .inr (2, [.int u, .int vtp, .int vme, .int vta, .int vpl, .int vel, .ref xpg, .ref xli, .ref xty, .ref xen, .ref xtl, .int vsg, .int vus, .int vrw, .int vur, .ref xst, .ref xmn, .ref xdr, .ref xhe, .ref xrs, .ref xrm, .ref xrd, .ref xhr, .int vwr, .int vch, .ref xki, .ref xin, .ref xpl, .ref xle, .ref xso, .ref xva, .ref xck, .ref xci, .ref xcp, .ref xcl, .ref xcs, .ref xcv])), (xpg, .inl (G.2.1 0, 6, .inl gpg)), (xli, .inl (G.2.1 0, 6, .inl gli)), (xty, .inl (G.2.1 0, 6, .inl gty)), (xen, .inl (G.2.1 0, 6, .inl gen)), (xtl, .inl (G.2.1 0, 6, .inl gtl)), (xmn, .inl (G.2.1 0, 24, .inl gmn)), (xdr, .inl (G.2.1 2, 24, .inl gdr)), (xrm, .inl (G.2.1 0, 24, .inl grm)), (xrd, .inl (G.2.1 2, 24, .inl grd))] t.heap) (va_A [(h, .inr (2, [.int vth, .int vtp, .int vme, .int vta, .int vpl, .int vel, .ref xpg, .ref xli, .ref xty, .ref xen, .ref xtl, .int vsg, .int vus, .int vrw, .int vur, .ref xst, .ref xmn, .ref xdr, .ref xhe, .ref xrs, .ref xrm, .ref xrd, .ref xhr, .int vwr, .int vch, .ref xki, .ref xin, .ref xpl, .ref xle, .ref xso, .ref xva, .ref xck, .ref xci, .ref xcp, .ref xcl, .ref xcs, .ref xcv])), (xpg, .inl (G.2.1 0, 6, .inl gpg)), (xli, .inl (G.2.1 0, 6, .inl gli)), (xty, .inl (G.2.1 0, 6, .inl gty)), (xen, .inl (G.2.1 0, 6, .inl gen)), (xtl, .inl (G.2.1 0, 6, .inl gtl)), (xmn, .inl (G.2.1 0, 24, .inl gmn)), (xdr, .inl (G.2.1 2, 24, .inl gdr)), (xrm, .inl (G.2.1 0, 24, .inl grm)), (xrd, .inl (G.2.1 2, 24, .inl grd))] sz)) 0 0 (va_A [(h, .inr (2, [.int vth, .int vtp, .int vme, .int vta, .int vpl, .int vel, .ref xpg, .ref xli, .ref xty, .ref xen, .ref xtl, .int vsg, .int vus, .int vrw, .int vur, .ref xst, .ref xmn, .ref xdr, .ref xhe, .ref xrs, .ref xrm, .ref xrd, .ref xhr, .int vwr, .int vch, .ref xki, .ref xin, .ref xpl, .ref xle, .ref xso, .ref xva, .ref xck, .ref xci, .ref xcp, .ref xcl, .ref xcs, .ref xcv])), (xpg, .inl (G.2.1 0, 6, .inl gpg)), (xli, .inl (G.2.1 0, 6, .inl gli)), (xty, .inl (G.2.1 0, 6, .inl gty)), (xen, .inl (G.2.1 0, 6, .inl gen)), (xtl, .inl (G.2.1 0, 6, .inl gtl)), (xmn, .inl (G.2.1 0, 24, .inl gmn)), (xdr, .inl (G.2.1 2, 24, .inl gdr)), (xrm, .inl (G.2.1 0, 24, .inl grm)), (xrd, .inl (G.2.1 2, 24, .inl grd))] sz) := by
  refine Met.ofW (cc := b_Md_size) (maxL := 3) (ret := (some .int)) (by decide +kernel) rfl ?_
  intro p e s m args below meth c s₁ B hml hv
  obtain ⟨rfl, hsz, hcx, hP, hD0⟩ := hv
  have hx := B.exec
  have hb := B.bytes
  have hr := B.returns
  have hlocks := B.notSynchronized
  have hown : s.vm.findClass R_Md = some m.cls := findClass_of_methodNamed B.named
  subst hsz
  have hD := hD0.self (sz := s.heap.size)
  generalize hAe : va_A [(h, .inr (2, [.int vth, .int vtp, .int vme, .int vta, .int vpl, .int vel, .ref xpg, .ref xli, .ref xty, .ref xen, .ref xtl, .int vsg, .int vus, .int vrw, .int vur, .ref xst, .ref xmn, .ref xdr, .ref xhe, .ref xrs, .ref xrm, .ref xrd, .ref xhr, .int vwr, .int vch, .ref xki, .ref xin, .ref xpl, .ref xle, .ref xso, .ref xva, .ref xck, .ref xci, .ref xcp, .ref xcl, .ref xcs, .ref xcv])), (xpg, .inl (G.2.1 0, 6, .inl gpg)), (xli, .inl (G.2.1 0, 6, .inl gli)), (xty, .inl (G.2.1 0, 6, .inl gty)), (xen, .inl (G.2.1 0, 6, .inl gen)), (xtl, .inl (G.2.1 0, 6, .inl gtl)), (xmn, .inl (G.2.1 0, 24, .inl gmn)), (xdr, .inl (G.2.1 2, 24, .inl gdr)), (xrm, .inl (G.2.1 0, 24, .inl grm)), (xrd, .inl (G.2.1 2, 24, .inl grd))] s.heap.size = A at hD hcx ⊢
  have hA : ∀ q : Nat, s.heap.size ≤ q → A q := fun q h => by rw [← hAe]; exact Or.inr h
  have hS : va_S A s.heap s.heap [] := va_S.rf
  have hts := hcx.now.1 [.ref h, .int wh, .int k].toArray
  have hK := hcx.now.2.1
  have hl := lv_entry ([.ref h, .int wh, .int k]) (n := 3) (Nat.le_of_ble_eq_true rfl)
  rw [lg_entry_eq]
  generalize (lg_sl ([.ref h, .int wh, .int k]) ++ List.replicate (3 - (lg_sl ([.ref h, .int wh, .int k])).length) Slot.unset).toArray = ls at hl ⊢
  have hl : lv_has ls 3 [(0, .ref h), (1, .int wh), (2, .int k)] := hl
  unfold wp_Md_size at hw
  refine lv_aload_n hx hb d_Md_size_0 rfl (lv_at hl 0 rfl) ?_
  refine lv_iconst (v := 0) hx hb d_Md_size_1 (by decide) ?_
  refine va_put (D := G.1) (ci := 2) (v := .int 0) (ty := (.int)) (C := R_Md) (T := T_Md) (N := 37) hx hb hts in_Md ty_Md tk_Md nm_Md hown hK hP hD hS 0 rfl rfl 0 (by decide) (hts _ fl_Md_94) (fun _ h9 => h9) rfl (by decide +kernel) rfl rfl (Nat.le_of_ble_eq_true rfl) d_Md_size_2 (fun H locs hP hD hS => ?_)
  have hP : va_P G.1 vwC [(h, .inr (2, [.int 0, .int vtp, .int vme, .int vta, .int vpl, .int vel, .ref xpg, .ref xli, .ref xty, .ref xen, .ref xtl, .int vsg, .int vus, .int vrw, .int vur, .ref xst, .ref xmn, .ref xdr, .ref xhe, .ref xrs, .ref xrm, .ref xrd, .ref xhr, .int vwr, .int vch, .ref xki, .ref xin, .ref xpl, .ref xle, .ref xso, .ref xva, .ref xck, .ref xci, .ref xcp, .ref xcl, .ref xcs, .ref xcv])), (xpg, .inl (G.2.1 0, 6, .inl gpg)), (xli, .inl (G.2.1 0, 6, .inl gli)), (xty, .inl (G.2.1 0, 6, .inl gty)), (xen, .inl (G.2.1 0, 6, .inl gen)), (xtl, .inl (G.2.1 0, 6, .inl gtl)), (xmn, .inl (G.2.1 0, 24, .inl gmn)), (xdr, .inl (G.2.1 2, 24, .inl gdr)), (xrm, .inl (G.2.1 0, 24, .inl grm)), (xrd, .inl (G.2.1 2, 24, .inl grd))] H := hP
  have hD : va_D A [(h, .inr (2, [.int 0, .int vtp, .int vme, .int vta, .int vpl, .int vel, .ref xpg, .ref xli, .ref xty, .ref xen, .ref xtl, .int vsg, .int vus, .int vrw, .int vur, .ref xst, .ref xmn, .ref xdr, .ref xhe, .ref xrs, .ref xrm, .ref xrd, .ref xhr, .int vwr, .int vch, .ref xki, .ref xin, .ref xpl, .ref xle, .ref xso, .ref xva, .ref xck, .ref xci, .ref xcp, .ref xcl, .ref xcs, .ref xcv])), (xpg, .inl (G.2.1 0, 6, .inl gpg)), (xli, .inl (G.2.1 0, 6, .inl gli)), (xty, .inl (G.2.1 0, 6, .inl gty)), (xen, .inl (G.2.1 0, 6, .inl gen)), (xtl, .inl (G.2.1 0, 6, .inl gtl)), (xmn, .inl (G.2.1 0, 24, .inl gmn)), (xdr, .inl (G.2.1 2, 24, .inl gdr)), (xrm, .inl (G.2.1 0, 24, .inl grm)), (xrd, .inl (G.2.1 2, 24, .inl grd))] := hD
  refine lv_iload_n hx hb d_Md_size_5 rfl (lv_at hl 1 rfl) ?_
  by_cases c_1 : wh = 0
  · replace hw := hw.1 c_1
    refine lv_tableIn (tgt := 72) hx hb d_Md_size_6 (by rw [c_1]; decide) (by rw [c_1]; decide) (by rw [c_1]; rfl) (by decide) ?_
    refine lv_aload_n hx hb d_Md_size_72 rfl (lv_at hl 0 rfl) ?_
    refine lv_iload_n hx hb d_Md_size_73 rfl (lv_at hl 2 rfl) ?_
    have hPc := hP.sub (ws' := [(h, .inr (2, [.int 0, .int vtp, .int vme, .int vta, .int vpl, .int vel, .ref xpg, .ref xli, .ref xty, .ref xen, .ref xtl, .int vsg, .int vus, .int vrw, .int vur, .ref xst, .ref xmn, .ref xdr, .ref xhe, .ref xrs, .ref xrm, .ref xrd, .ref xhr, .int vwr, .int vch, .ref xki, .ref xin, .ref xpl, .ref xle, .ref xso, .ref xva, .ref xck, .ref xci, .ref xcp, .ref xcl, .ref xcs, .ref xcv]))]) [0] rfl
    refine pu_i (va_runV (As := [.int k]) (rest := []) ⟨hx, hb, hml, hown, hts⟩ (c_Md_isMemory l G h xpg xli xty xen xtl xst xmn xdr xhe xrs xrm xrd xhr xki xin xpl xle xso xva xck xci xcp xcl xcs xcv 0 vtp vme vta vpl vel vsg vus vrw vur vwr vch k) (cwV 1 hts (gi_V ml_Md_119 im_Md_isMemory se_Md_isMemory ini_Md co_Md_isMemory) rfl rfl rfl (by decide +kernel) ⟨Nat.le_of_ble_eq_true rfl, Nat.le_of_ble_eq_true rfl⟩) ⟨cp_blind, va_recv hK hPc (ci := 2) (q0 := 0) rfl rfl, cp_pre hcx hS hPc⟩ rfl rfl hl.1 rfl (lv_room (Nat.le_of_ble_eq_true rfl)) d_Md_size_74 ⟨Nat.le_of_ble_eq_true rfl, Nat.le_of_ble_eq_true rfl⟩) hS hP (fun H locs hP hS => ?_)
    refine lv_if_eq (tgt := 89) hx hb d_Md_size_77 (by decide) (fun c_2 => ?_) (fun c_2 => ?_)
    · replace hw := hw.1 c_2
      refine lv_iconst (v := (-1)) hx hb d_Md_size_89 (by decide) ?_
      exact W.iret (v := (-1)) hx hb hr (fun t ht hW => ⟨⟨(-1), 0, rfl, hw, by have h9 := hP; rw [← ht] at h9; exact h9⟩, hS.F ht⟩) hS.2.2 d_Md_size_90
    · replace hw := hw.2 c_2
      refine lv_aload_n hx hb d_Md_size_80 rfl (lv_at hl 0 rfl) ?_
      refine va_get (D := G.1) (ci := 2) (v := .ref xpg) (C := R_Md) (T := T_Md) (N := 37) hx hb hts in_Md hown hK hP 0 rfl rfl 6 (by decide) (hts _ fl_Md_16) (fun _ h9 => h9) rfl d_Md_size_81 ?_
      refine lv_iload_n hx hb d_Md_size_84 rfl (lv_at hl 2 rfl) ?_
      obtain ⟨h_3, hw⟩ := hw
      refine va_iald hx hb hK hP 1 0 rfl rfl h_3 d_Md_size_85 ?_
      refine lv_goto (tgt := 90) hx hb d_Md_size_86 (by decide) ?_
      exact W.iret (v := gpg k.toNatClampNeg) hx hb hr (fun t ht hW => ⟨⟨gpg k.toNatClampNeg, 0, rfl, hw, by have h9 := hP; rw [← ht] at h9; exact h9⟩, hS.F ht⟩) hS.2.2 d_Md_size_90
  · replace hw := hw.2 c_1
    by_cases c_4 : wh = 1
    · replace hw := hw.1 c_4
      refine lv_tableIn (tgt := 91) hx hb d_Md_size_6 (by rw [c_4]; decide) (by rw [c_4]; decide) (by rw [c_4]; rfl) (by decide) ?_
      refine lv_aload_n hx hb d_Md_size_91 rfl (lv_at hl 0 rfl) ?_
      refine lv_iload_n hx hb d_Md_size_92 rfl (lv_at hl 2 rfl) ?_
      have hPc := hP.sub (ws' := [(h, .inr (2, [.int 0, .int vtp, .int vme, .int vta, .int vpl, .int vel, .ref xpg, .ref xli, .ref xty, .ref xen, .ref xtl, .int vsg, .int vus, .int vrw, .int vur, .ref xst, .ref xmn, .ref xdr, .ref xhe, .ref xrs, .ref xrm, .ref xrd, .ref xhr, .int vwr, .int vch, .ref xki, .ref xin, .ref xpl, .ref xle, .ref xso, .ref xva, .ref xck, .ref xci, .ref xcp, .ref xcl, .ref xcs, .ref xcv]))]) [0] rfl
      refine pu_i (va_runV (As := [.int k]) (rest := []) ⟨hx, hb, hml, hown, hts⟩ (c_Md_isMemory l G h xpg xli xty xen xtl xst xmn xdr xhe xrs xrm xrd xhr xki xin xpl xle xso xva xck xci xcp xcl xcs xcv 0 vtp vme vta vpl vel vsg vus vrw vur vwr vch k) (cwV 1 hts (gi_V ml_Md_119 im_Md_isMemory se_Md_isMemory ini_Md co_Md_isMemory) rfl rfl rfl (by decide +kernel) ⟨Nat.le_of_ble_eq_true rfl, Nat.le_of_ble_eq_true rfl⟩) ⟨cp_blind, va_recv hK hPc (ci := 2) (q0 := 0) rfl rfl, cp_pre hcx hS hPc⟩ rfl rfl hl.1 rfl (lv_room (Nat.le_of_ble_eq_true rfl)) d_Md_size_93 ⟨Nat.le_of_ble_eq_true rfl, Nat.le_of_ble_eq_true rfl⟩) hS hP (fun H locs hP hS => ?_)
      refine lv_if_eq (tgt := 108) hx hb d_Md_size_96 (by decide) (fun c_5 => ?_) (fun c_5 => ?_)
      · replace hw := hw.1 c_5
        refine lv_iconst (v := (-1)) hx hb d_Md_size_108 (by decide) ?_
        exact W.iret (v := (-1)) hx hb hr (fun t ht hW => ⟨⟨(-1), 0, rfl, hw, by have h9 := hP; rw [← ht] at h9; exact h9⟩, hS.F ht⟩) hS.2.2 d_Md_size_109
      · replace hw := hw.2 c_5
        refine lv_aload_n hx hb d_Md_size_99 rfl (lv_at hl 0 rfl) ?_
        refine va_get (D := G.1) (ci := 2) (v := .ref xli) (C := R_Md) (T := T_Md) (N := 37) hx hb hts in_Md hown hK hP 0 rfl rfl 7 (by decide) (hts _ fl_Md_20) (fun _ h9 => h9) rfl d_Md_size_100 ?_
        refine lv_iload_n hx hb d_Md_size_103 rfl (lv_at hl 2 rfl) ?_
        obtain ⟨h_6, hw⟩ := hw
        refine va_iald hx hb hK hP 2 0 rfl rfl h_6 d_Md_size_104 ?_
        refine lv_goto (tgt := 109) hx hb d_Md_size_105 (by decide) ?_
        exact W.iret (v := gli k.toNatClampNeg) hx hb hr (fun t ht hW => ⟨⟨gli k.toNatClampNeg, 0, rfl, hw, by have h9 := hP; rw [← ht] at h9; exact h9⟩, hS.F ht⟩) hS.2.2 d_Md_size_109
    · replace hw := hw.2 c_4
      by_cases c_7 : wh = 2
      · replace hw := hw.1 c_7
        refine lv_tableIn (tgt := 110) hx hb d_Md_size_6 (by rw [c_7]; decide) (by rw [c_7]; decide) (by rw [c_7]; rfl) (by decide) ?_
        refine lv_aload_n hx hb d_Md_size_110 rfl (lv_at hl 0 rfl) ?_
        refine lv_iload_n hx hb d_Md_size_111 rfl (lv_at hl 2 rfl) ?_
        have hPc := hP.sub (ws' := [(h, .inr (2, [.int 0, .int vtp, .int vme, .int vta, .int vpl, .int vel, .ref xpg, .ref xli, .ref xty, .ref xen, .ref xtl, .int vsg, .int vus, .int vrw, .int vur, .ref xst, .ref xmn, .ref xdr, .ref xhe, .ref xrs, .ref xrm, .ref xrd, .ref xhr, .int vwr, .int vch, .ref xki, .ref xin, .ref xpl, .ref xle, .ref xso, .ref xva, .ref xck, .ref xci, .ref xcp, .ref xcl, .ref xcs, .ref xcv]))]) [0] rfl
        refine pu_i (va_runV (As := [.int k]) (rest := []) ⟨hx, hb, hml, hown, hts⟩ (c_Md_isTable l G h xpg xli xty xen xtl xst xmn xdr xhe xrs xrm xrd xhr xki xin xpl xle xso xva xck xci xcp xcl xcs xcv 0 vtp vme vta vpl vel vsg vus vrw vur vwr vch k) (cwV 1 hts (gi_V ml_Md_169 im_Md_isTable se_Md_isTable ini_Md co_Md_isTable) rfl rfl rfl (by decide +kernel) ⟨Nat.le_of_ble_eq_true rfl, Nat.le_of_ble_eq_true rfl⟩) ⟨cp_blind, va_recv hK hPc (ci := 2) (q0 := 0) rfl rfl, cp_pre hcx hS hPc⟩ rfl rfl hl.1 rfl (lv_room (Nat.le_of_ble_eq_true rfl)) d_Md_size_112 ⟨Nat.le_of_ble_eq_true rfl, Nat.le_of_ble_eq_true rfl⟩) hS hP (fun H locs hP hS => ?_)
        refine lv_if_eq (tgt := 127) hx hb d_Md_size_115 (by decide) (fun c_8 => ?_) (fun c_8 => ?_)
        · replace hw := hw.1 c_8
          refine lv_iconst (v := (-1)) hx hb d_Md_size_127 (by decide) ?_
          exact W.iret (v := (-1)) hx hb hr (fun t ht hW => ⟨⟨(-1), 0, rfl, hw, by have h9 := hP; rw [← ht] at h9; exact h9⟩, hS.F ht⟩) hS.2.2 d_Md_size_128
        · replace hw := hw.2 c_8
          refine lv_aload_n hx hb d_Md_size_118 rfl (lv_at hl 0 rfl) ?_
          refine va_get (D := G.1) (ci := 2) (v := .ref xen) (C := R_Md) (T := T_Md) (N := 37) hx hb hts in_Md hown hK hP 0 rfl rfl 9 (by decide) (hts _ fl_Md_26) (fun _ h9 => h9) rfl d_Md_size_119 ?_
          refine lv_iload_n hx hb d_Md_size_122 rfl (lv_at hl 2 rfl) ?_
          obtain ⟨h_9, hw⟩ := hw
          refine va_iald hx hb hK hP 4 0 rfl rfl h_9 d_Md_size_123 ?_
          refine lv_goto (tgt := 128) hx hb d_Md_size_124 (by decide) ?_
          exact W.iret (v := gen k.toNatClampNeg) hx hb hr (fun t ht hW => ⟨⟨gen k.toNatClampNeg, 0, rfl, hw, by have h9 := hP; rw [← ht] at h9; exact h9⟩, hS.F ht⟩) hS.2.2 d_Md_size_128
      · replace hw := hw.2 c_7
        by_cases c_10 : wh = 3
        · replace hw := hw.1 c_10
          refine lv_tableIn (tgt := 129) hx hb d_Md_size_6 (by rw [c_10]; decide) (by rw [c_10]; decide) (by rw [c_10]; rfl) (by decide) ?_
          refine lv_aload_n hx hb d_Md_size_129 rfl (lv_at hl 0 rfl) ?_
          refine lv_iload_n hx hb d_Md_size_130 rfl (lv_at hl 2 rfl) ?_
          have hPc := hP.sub (ws' := [(h, .inr (2, [.int 0, .int vtp, .int vme, .int vta, .int vpl, .int vel, .ref xpg, .ref xli, .ref xty, .ref xen, .ref xtl, .int vsg, .int vus, .int vrw, .int vur, .ref xst, .ref xmn, .ref xdr, .ref xhe, .ref xrs, .ref xrm, .ref xrd, .ref xhr, .int vwr, .int vch, .ref xki, .ref xin, .ref xpl, .ref xle, .ref xso, .ref xva, .ref xck, .ref xci, .ref xcp, .ref xcl, .ref xcs, .ref xcv]))]) [0] rfl
          refine pu_i (va_runV (As := [.int k]) (rest := []) ⟨hx, hb, hml, hown, hts⟩ (c_Md_isTable l G h xpg xli xty xen xtl xst xmn xdr xhe xrs xrm xrd xhr xki xin xpl xle xso xva xck xci xcp xcl xcs xcv 0 vtp vme vta vpl vel vsg vus vrw vur vwr vch k) (cwV 1 hts (gi_V ml_Md_169 im_Md_isTable se_Md_isTable ini_Md co_Md_isTable) rfl rfl rfl (by decide +kernel) ⟨Nat.le_of_ble_eq_true rfl, Nat.le_of_ble_eq_true rfl⟩) ⟨cp_blind, va_recv hK hPc (ci := 2) (q0 := 0) rfl rfl, cp_pre hcx hS hPc⟩ rfl rfl hl.1 rfl (lv_room (Nat.le_of_ble_eq_true rfl)) d_Md_size_131 ⟨Nat.le_of_ble_eq_true rfl, Nat.le_of_ble_eq_true rfl⟩) hS hP (fun H locs hP hS => ?_)
          refine lv_if_eq (tgt := 146) hx hb d_Md_size_134 (by decide) (fun c_11 => ?_) (fun c_11 => ?_)
          · replace hw := hw.1 c_11
            refine lv_iconst (v := (-1)) hx hb d_Md_size_146 (by decide) ?_
            exact W.iret (v := (-1)) hx hb hr (fun t ht hW => ⟨⟨(-1), 0, rfl, hw, by have h9 := hP; rw [← ht] at h9; exact h9⟩, hS.F ht⟩) hS.2.2 d_Md_size_147
          · replace hw := hw.2 c_11
            refine lv_aload_n hx hb d_Md_size_137 rfl (lv_at hl 0 rfl) ?_
            refine va_get (D := G.1) (ci := 2) (v := .ref xtl) (C := R_Md) (T := T_Md) (N := 37) hx hb hts in_Md hown hK hP 0 rfl rfl 10 (by decide) (hts _ fl_Md_29) (fun _ h9 => h9) rfl d_Md_size_138 ?_
            refine lv_iload_n hx hb d_Md_size_141 rfl (lv_at hl 2 rfl) ?_
            obtain ⟨h_12, hw⟩ := hw
            refine va_iald hx hb hK hP 5 0 rfl rfl h_12 d_Md_size_142 ?_
            refine lv_goto (tgt := 147) hx hb d_Md_size_143 (by decide) ?_
            exact W.iret (v := gtl k.toNatClampNeg) hx hb hr (fun t ht hW => ⟨⟨gtl k.toNatClampNeg, 0, rfl, hw, by have h9 := hP; rw [← ht] at h9; exact h9⟩, hS.F ht⟩) hS.2.2 d_Md_size_147
        · replace hw := hw.2 c_10
          by_cases c_13 : wh = 4
          · replace hw := hw.1 c_13
            refine lv_tableIn (tgt := 148) hx hb d_Md_size_6 (by rw [c_13]; decide) (by rw [c_13]; decide) (by rw [c_13]; rfl) (by decide) ?_
            refine lv_aload_n hx hb d_Md_size_148 rfl (lv_at hl 0 rfl) ?_
            refine lv_iload_n hx hb d_Md_size_149 rfl (lv_at hl 2 rfl) ?_
            have hPc := hP.sub (ws' := [(h, .inr (2, [.int 0, .int vtp, .int vme, .int vta, .int vpl, .int vel, .ref xpg, .ref xli, .ref xty, .ref xen, .ref xtl, .int vsg, .int vus, .int vrw, .int vur, .ref xst, .ref xmn, .ref xdr, .ref xhe, .ref xrs, .ref xrm, .ref xrd, .ref xhr, .int vwr, .int vch, .ref xki, .ref xin, .ref xpl, .ref xle, .ref xso, .ref xva, .ref xck, .ref xci, .ref xcp, .ref xcl, .ref xcs, .ref xcv]))]) [0] rfl
            refine pu_i (va_runV (As := [.int k]) (rest := []) ⟨hx, hb, hml, hown, hts⟩ (c_Md_isTable l G h xpg xli xty xen xtl xst xmn xdr xhe xrs xrm xrd xhr xki xin xpl xle xso xva xck xci xcp xcl xcs xcv 0 vtp vme vta vpl vel vsg vus vrw vur vwr vch k) (cwV 1 hts (gi_V ml_Md_169 im_Md_isTable se_Md_isTable ini_Md co_Md_isTable) rfl rfl rfl (by decide +kernel) ⟨Nat.le_of_ble_eq_true rfl, Nat.le_of_ble_eq_true rfl⟩) ⟨cp_blind, va_recv hK hPc (ci := 2) (q0 := 0) rfl rfl, cp_pre hcx hS hPc⟩ rfl rfl hl.1 rfl (lv_room (Nat.le_of_ble_eq_true rfl)) d_Md_size_150 ⟨Nat.le_of_ble_eq_true rfl, Nat.le_of_ble_eq_true rfl⟩) hS hP (fun H locs hP hS => ?_)
            refine lv_if_eq (tgt := 165) hx hb d_Md_size_153 (by decide) (fun c_14 => ?_) (fun c_14 => ?_)
            · replace hw := hw.1 c_14
              refine lv_iconst (v := (-1)) hx hb d_Md_size_165 (by decide) ?_
              exact W.iret (v := (-1)) hx hb hr (fun t ht hW => ⟨⟨(-1), 0, rfl, hw, by have h9 := hP; rw [← ht] at h9; exact h9⟩, hS.F ht⟩) hS.2.2 d_Md_size_166
            · replace hw := hw.2 c_14
              refine lv_aload_n hx hb d_Md_size_156 rfl (lv_at hl 0 rfl) ?_
              refine va_get (D := G.1) (ci := 2) (v := .ref xty) (C := R_Md) (T := T_Md) (N := 37) hx hb hts in_Md hown hK hP 0 rfl rfl 8 (by decide) (hts _ fl_Md_23) (fun _ h9 => h9) rfl d_Md_size_157 ?_
              refine lv_iload_n hx hb d_Md_size_160 rfl (lv_at hl 2 rfl) ?_
              obtain ⟨h_15, hw⟩ := hw
              refine va_iald hx hb hK hP 3 0 rfl rfl h_15 d_Md_size_161 ?_
              refine lv_goto (tgt := 166) hx hb d_Md_size_162 (by decide) ?_
              exact W.iret (v := gty k.toNatClampNeg) hx hb hr (fun t ht hW => ⟨⟨gty k.toNatClampNeg, 0, rfl, hw, by have h9 := hP; rw [← ht] at h9; exact h9⟩, hS.F ht⟩) hS.2.2 d_Md_size_166
          · replace hw := hw.2 c_13
            by_cases c_16 : wh = 5
            · replace hw := hw.1 c_16
              refine lv_tableIn (tgt := 167) hx hb d_Md_size_6 (by rw [c_16]; decide) (by rw [c_16]; decide) (by rw [c_16]; rfl) (by decide) ?_
              refine lv_iload_n hx hb d_Md_size_167 rfl (lv_at hl 2 rfl) ?_
              refine lv_if_lt (tgt := 179) hx hb d_Md_size_168 (by decide) (fun c_17 => ?_) (fun c_17 => ?_)
              · replace hw := hw.1 c_17
                refine lv_iconst (v := (-1)) hx hb d_Md_size_179 (by decide) ?_
                refine lv_goto (tgt := 202) hx hb d_Md_size_180 (by decide) ?_
                exact W.iret (v := (-1)) hx hb hr (fun t ht hW => ⟨⟨(-1), 0, rfl, hw, by have h9 := hP; rw [← ht] at h9; exact h9⟩, hS.F ht⟩) hS.2.2 d_Md_size_202
              · replace hw := hw.2 c_17
                refine lv_iload_n hx hb d_Md_size_171 rfl (lv_at hl 2 rfl) ?_
                refine lv_aload_n hx hb d_Md_size_172 rfl (lv_at hl 0 rfl) ?_
                refine va_get (D := G.1) (ci := 2) (v := .int vsg) (C := R_Md) (T := T_Md) (N := 37) hx hb hts in_Md hown hK hP 0 rfl rfl 11 (by decide) (hts _ fl_Md_157) (fun _ h9 => h9) rfl d_Md_size_173 ?_
                refine lv_icmp_lt (tgt := 183) hx hb d_Md_size_176 (by decide) (fun c_18 => ?_) (fun c_18 => ?_)
                · replace hw := hw.1 c_18
                  refine lv_aload_n hx hb d_Md_size_183 rfl (lv_at hl 0 rfl) ?_
                  refine va_get (D := G.1) (ci := 2) (v := .ref xdr) (C := R_Md) (T := T_Md) (N := 37) hx hb hts in_Md hown hK hP 0 rfl rfl 17 (by decide) (hts _ fl_Md_38) (fun _ h9 => h9) rfl d_Md_size_184 ?_
                  refine lv_iload_n hx hb d_Md_size_187 rfl (lv_at hl 2 rfl) ?_
                  obtain ⟨h_19, hw⟩ := hw
                  refine va_zald hx hb hK hP 7 2 rfl rfl h_19 d_Md_size_188 ?_
                  refine lv_if_eq (tgt := 196) hx hb d_Md_size_189 (by decide) (fun c_20 => ?_) (fun c_20 => ?_)
                  · replace hw := hw.1 c_20
                    refine lv_aload_n hx hb d_Md_size_196 rfl (lv_at hl 0 rfl) ?_
                    refine va_get (D := G.1) (ci := 2) (v := .ref xmn) (C := R_Md) (T := T_Md) (N := 37) hx hb hts in_Md hown hK hP 0 rfl rfl 16 (by decide) (hts _ fl_Md_35) (fun _ h9 => h9) rfl d_Md_size_197 ?_
                    refine lv_iload_n hx hb d_Md_size_200 rfl (lv_at hl 2 rfl) ?_
                    obtain ⟨h_21, hw⟩ := hw
                    refine va_iald hx hb hK hP 6 0 rfl rfl h_21 d_Md_size_201 ?_
                    exact W.iret (v := gmn k.toNatClampNeg) hx hb hr (fun t ht hW => ⟨⟨gmn k.toNatClampNeg, 0, rfl, hw, by have h9 := hP; rw [← ht] at h9; exact h9⟩, hS.F ht⟩) hS.2.2 d_Md_size_202
                  · replace hw := hw.2 c_20
                    refine lv_iconst (v := 0) hx hb d_Md_size_192 (by decide) ?_
                    refine lv_goto (tgt := 202) hx hb d_Md_size_193 (by decide) ?_
                    exact W.iret (v := 0) hx hb hr (fun t ht hW => ⟨⟨0, 0, rfl, hw, by have h9 := hP; rw [← ht] at h9; exact h9⟩, hS.F ht⟩) hS.2.2 d_Md_size_202
                · replace hw := hw.2 c_18
                  refine lv_iconst (v := (-1)) hx hb d_Md_size_179 (by decide) ?_
                  refine lv_goto (tgt := 202) hx hb d_Md_size_180 (by decide) ?_
                  exact W.iret (v := (-1)) hx hb hr (fun t ht hW => ⟨⟨(-1), 0, rfl, hw, by have h9 := hP; rw [← ht] at h9; exact h9⟩, hS.F ht⟩) hS.2.2 d_Md_size_202
            · replace hw := hw.2 c_16
              by_cases c_22 : wh = 6
              · replace hw := hw.1 c_22
                refine lv_tableIn (tgt := 203) hx hb d_Md_size_6 (by rw [c_22]; decide) (by rw [c_22]; decide) (by rw [c_22]; rfl) (by decide) ?_
                refine lv_iload_n hx hb d_Md_size_203 rfl (lv_at hl 2 rfl) ?_
                refine lv_if_lt (tgt := 215) hx hb d_Md_size_204 (by decide) (fun c_23 => ?_) (fun c_23 => ?_)
                · replace hw := hw.1 c_23
                  refine lv_iconst (v := (-1)) hx hb d_Md_size_215 (by decide) ?_
                  refine lv_goto (tgt := 238) hx hb d_Md_size_216 (by decide) ?_
                  exact W.iret (v := (-1)) hx hb hr (fun t ht hW => ⟨⟨(-1), 0, rfl, hw, by have h9 := hP; rw [← ht] at h9; exact h9⟩, hS.F ht⟩) hS.2.2 d_Md_size_238
                · replace hw := hw.2 c_23
                  refine lv_iload_n hx hb d_Md_size_207 rfl (lv_at hl 2 rfl) ?_
                  refine lv_aload_n hx hb d_Md_size_208 rfl (lv_at hl 0 rfl) ?_
                  refine va_get (D := G.1) (ci := 2) (v := .int vrw) (C := R_Md) (T := T_Md) (N := 37) hx hb hts in_Md hown hK hP 0 rfl rfl 13 (by decide) (hts _ fl_Md_163) (fun _ h9 => h9) rfl d_Md_size_209 ?_
                  refine lv_icmp_lt (tgt := 219) hx hb d_Md_size_212 (by decide) (fun c_24 => ?_) (fun c_24 => ?_)
                  · replace hw := hw.1 c_24
                    refine lv_aload_n hx hb d_Md_size_219 rfl (lv_at hl 0 rfl) ?_
                    refine va_get (D := G.1) (ci := 2) (v := .ref xrd) (C := R_Md) (T := T_Md) (N := 37) hx hb hts in_Md hown hK hP 0 rfl rfl 21 (by decide) (hts _ fl_Md_51) (fun _ h9 => h9) rfl d_Md_size_220 ?_
                    refine lv_iload_n hx hb d_Md_size_223 rfl (lv_at hl 2 rfl) ?_
                    obtain ⟨h_25, hw⟩ := hw
                    refine va_zald hx hb hK hP 9 2 rfl rfl h_25 d_Md_size_224 ?_
                    refine lv_if_eq (tgt := 232) hx hb d_Md_size_225 (by decide) (fun c_26 => ?_) (fun c_26 => ?_)
                    · replace hw := hw.1 c_26
                      refine lv_aload_n hx hb d_Md_size_232 rfl (lv_at hl 0 rfl) ?_
                      refine va_get (D := G.1) (ci := 2) (v := .ref xrm) (C := R_Md) (T := T_Md) (N := 37) hx hb hts in_Md hown hK hP 0 rfl rfl 20 (by decide) (hts _ fl_Md_48) (fun _ h9 => h9) rfl d_Md_size_233 ?_
                      refine lv_iload_n hx hb d_Md_size_236 rfl (lv_at hl 2 rfl) ?_
                      obtain ⟨h_27, hw⟩ := hw
                      refine va_iald hx hb hK hP 8 0 rfl rfl h_27 d_Md_size_237 ?_
                      exact W.iret (v := grm k.toNatClampNeg) hx hb hr (fun t ht hW => ⟨⟨grm k.toNatClampNeg, 0, rfl, hw, by have h9 := hP; rw [← ht] at h9; exact h9⟩, hS.F ht⟩) hS.2.2 d_Md_size_238
                    · replace hw := hw.2 c_26
                      refine lv_iconst (v := 0) hx hb d_Md_size_228 (by decide) ?_
                      refine lv_goto (tgt := 238) hx hb d_Md_size_229 (by decide) ?_
                      exact W.iret (v := 0) hx hb hr (fun t ht hW => ⟨⟨0, 0, rfl, hw, by have h9 := hP; rw [← ht] at h9; exact h9⟩, hS.F ht⟩) hS.2.2 d_Md_size_238
                  · replace hw := hw.2 c_24
                    refine lv_iconst (v := (-1)) hx hb d_Md_size_215 (by decide) ?_
                    refine lv_goto (tgt := 238) hx hb d_Md_size_216 (by decide) ?_
                    exact W.iret (v := (-1)) hx hb hr (fun t ht hW => ⟨⟨(-1), 0, rfl, hw, by have h9 := hP; rw [← ht] at h9; exact h9⟩, hS.F ht⟩) hS.2.2 d_Md_size_238
              · replace hw := hw.2 c_22
                by_cases c_28 : wh = 7
                · replace hw := hw.1 c_28
                  refine lv_tableIn (tgt := 239) hx hb d_Md_size_6 (by rw [c_28]; decide) (by rw [c_28]; decide) (by rw [c_28]; rfl) (by decide) ?_
                  refine lv_aload_n hx hb d_Md_size_239 rfl (lv_at hl 0 rfl) ?_
                  refine va_get (D := G.1) (ci := 2) (v := .int vpl) (C := R_Md) (T := T_Md) (N := 37) hx hb hts in_Md hown hK hP 0 rfl rfl 4 (by decide) (hts _ fl_Md_9) (fun _ h9 => h9) rfl d_Md_size_240 ?_
                  exact W.iret (v := vpl) hx hb hr (fun t ht hW => ⟨⟨vpl, 0, rfl, hw, by have h9 := hP; rw [← ht] at h9; exact h9⟩, hS.F ht⟩) hS.2.2 d_Md_size_243
                · replace hw := hw.2 c_28
                  by_cases c_29 : wh = 8
                  · replace hw := hw.1 c_29
                    refine lv_tableIn (tgt := 244) hx hb d_Md_size_6 (by rw [c_29]; decide) (by rw [c_29]; decide) (by rw [c_29]; rfl) (by decide) ?_
                    refine lv_aload_n hx hb d_Md_size_244 rfl (lv_at hl 0 rfl) ?_
                    refine va_get (D := G.1) (ci := 2) (v := .int vel) (C := R_Md) (T := T_Md) (N := 37) hx hb hts in_Md hown hK hP 0 rfl rfl 5 (by decide) (hts _ fl_Md_13) (fun _ h9 => h9) rfl d_Md_size_245 ?_
                    exact W.iret (v := vel) hx hb hr (fun t ht hW => ⟨⟨vel, 0, rfl, hw, by have h9 := hP; rw [← ht] at h9; exact h9⟩, hS.F ht⟩) hS.2.2 d_Md_size_248
                  · replace hw := hw.2 c_29
                    by_cases c_30 : wh = 9
                    · replace hw := hw.1 c_30
                      refine lv_tableIn (tgt := 249) hx hb d_Md_size_6 (by rw [c_30]; decide) (by rw [c_30]; decide) (by rw [c_30]; rfl) (by decide) ?_
                      refine lv_aload_n hx hb d_Md_size_249 rfl (lv_at hl 0 rfl) ?_
                      refine va_get (D := G.1) (ci := 2) (v := .int vme) (C := R_Md) (T := T_Md) (N := 37) hx hb hts in_Md hown hK hP 0 rfl rfl 2 (by decide) (hts _ fl_Md_99) (fun _ h9 => h9) rfl d_Md_size_250 ?_
                      exact W.iret (v := vme) hx hb hr (fun t ht hW => ⟨⟨vme, 0, rfl, hw, by have h9 := hP; rw [← ht] at h9; exact h9⟩, hS.F ht⟩) hS.2.2 d_Md_size_253
                    · replace hw := hw.2 c_30
                      by_cases c_31 : wh = 10
                      · replace hw := hw.1 c_31
                        refine lv_tableIn (tgt := 254) hx hb d_Md_size_6 (by rw [c_31]; decide) (by rw [c_31]; decide) (by rw [c_31]; rfl) (by decide) ?_
                        refine lv_aload_n hx hb d_Md_size_254 rfl (lv_at hl 0 rfl) ?_
                        refine va_get (D := G.1) (ci := 2) (v := .int vta) (C := R_Md) (T := T_Md) (N := 37) hx hb hts in_Md hown hK hP 0 rfl rfl 3 (by decide) (hts _ fl_Md_102) (fun _ h9 => h9) rfl d_Md_size_255 ?_
                        exact W.iret (v := vta) hx hb hr (fun t ht hW => ⟨⟨vta, 0, rfl, hw, by have h9 := hP; rw [← ht] at h9; exact h9⟩, hS.F ht⟩) hS.2.2 d_Md_size_258
                      · replace hw := hw.2 c_31
                        by_cases c_32 : wh = 11
                        · replace hw := hw.1 c_32
                          refine lv_tableIn (tgt := 259) hx hb d_Md_size_6 (by rw [c_32]; decide) (by rw [c_32]; decide) (by rw [c_32]; rfl) (by decide) ?_
                          refine lv_aload_n hx hb d_Md_size_259 rfl (lv_at hl 0 rfl) ?_
                          refine va_get (D := G.1) (ci := 2) (v := .int vsg) (C := R_Md) (T := T_Md) (N := 37) hx hb hts in_Md hown hK hP 0 rfl rfl 11 (by decide) (hts _ fl_Md_157) (fun _ h9 => h9) rfl d_Md_size_260 ?_
                          exact W.iret (v := vsg) hx hb hr (fun t ht hW => ⟨⟨vsg, 0, rfl, hw, by have h9 := hP; rw [← ht] at h9; exact h9⟩, hS.F ht⟩) hS.2.2 d_Md_size_263
                        · replace hw := hw.2 c_32
                          by_cases c_33 : wh = 12
                          · replace hw := hw.1 c_33
                            refine lv_tableIn (tgt := 264) hx hb d_Md_size_6 (by rw [c_33]; decide) (by rw [c_33]; decide) (by rw [c_33]; rfl) (by decide) ?_
                            refine lv_aload_n hx hb d_Md_size_264 rfl (lv_at hl 0 rfl) ?_
                            refine va_get (D := G.1) (ci := 2) (v := .int vrw) (C := R_Md) (T := T_Md) (N := 37) hx hb hts in_Md hown hK hP 0 rfl rfl 13 (by decide) (hts _ fl_Md_163) (fun _ h9 => h9) rfl d_Md_size_265 ?_
                            exact W.iret (v := vrw) hx hb hr (fun t ht hW => ⟨⟨vrw, 0, rfl, hw, by have h9 := hP; rw [← ht] at h9; exact h9⟩, hS.F ht⟩) hS.2.2 d_Md_size_268
                          · replace hw := hw.2 c_33
                            have nc_1 := lv_neT (a := 0) c_1 (by decide)
                            have nc_4 := lv_neT (a := 1) c_4 (by decide)
                            have nc_7 := lv_neT (a := 2) c_7 (by decide)
                            have nc_10 := lv_neT (a := 3) c_10 (by decide)
                            have nc_13 := lv_neT (a := 4) c_13 (by decide)
                            have nc_16 := lv_neT (a := 5) c_16 (by decide)
                            have nc_22 := lv_neT (a := 6) c_22 (by decide)
                            have nc_28 := lv_neT (a := 7) c_28 (by decide)
                            have nc_29 := lv_neT (a := 8) c_29 (by decide)
                            have nc_30 := lv_neT (a := 9) c_30 (by decide)
                            have nc_31 := lv_neT (a := 10) c_31 (by decide)
                            have nc_32 := lv_neT (a := 11) c_32 (by decide)
                            have nc_33 := lv_neT (a := 12) c_33 (by decide)
                            refine lv_tableOut (tgt := 269) hx hb d_Md_size_6 (by omega) (by decide) ?_
                            refine lv_iconst (v := (-1)) hx hb d_Md_size_269 (by decide) ?_
                            exact W.iret (v := (-1)) hx hb hr (fun t ht hW => ⟨⟨(-1), 0, rfl, hw, by have h9 := hP; rw [← ht] at h9; exact h9⟩, hS.F ht⟩) hS.2.2 d_Md_size_270
