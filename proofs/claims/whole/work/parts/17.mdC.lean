def wp_Md_memory (post : Int32 → (Int32 × Int32 × Int32 × (Nat → Int32) × (Nat → Int32)) → Prop) (vth : Int32) (vtp : Int32) (vme : Int32) (vta : Int32) (vpl : Int32) (vel : Int32) (vsg : Int32) (vus : Int32) (vrw : Int32) (vur : Int32) (vwr : Int32) (vch : Int32) (gpg : Nat → Int32) (gli : Nat → Int32) (pg : Int32) (lim : Int32) : Prop := ((vme = 6 → (post (-1) (0, vme, vpl, gpg, gli))) ∧ (¬ vme = 6 → (((pg < 0 → (post (-1) (0, vme, vpl, gpg, gli))) ∧ (¬ pg < 0 → (((lim < pg → (post (-1) (0, vme, vpl, gpg, gli))) ∧ (¬ lim < pg → (((65536 < lim → (post (-1) (0, vme, vpl, gpg, gli))) ∧ (¬ 65536 < lim → (((pg ≤ vpl → ((vp_in vme 6) ∧ ∀ a_7 : Nat → Int32, a_7 = upd gpg vme.toNatClampNeg pg → ((vp_in vme 6) ∧ ∀ a_9 : Nat → Int32, a_9 = upd gli vme.toNatClampNeg lim → (∀ x_10 : Int32, x_10 = vpl - pg → (∀ x_11 : Int32, x_11 = vme + 1 → (post (x_11 - 1) (0, x_11, x_10, a_7, a_9))))))) ∧ (¬ pg ≤ vpl → (post (-1) (0, vme, vpl, gpg, gli))))))))))))))))
set_option maxHeartbeats 4000000 in
set_option maxRecDepth 100000 in
theorem t_Md_memory (l : Launch) (G : cxT) (h : Nat) (xpg : Nat) (xli : Nat) (xty : Nat) (xen : Nat) (xtl : Nat) (xst : Nat) (xmn : Nat) (xdr : Nat) (xhe : Nat) (xrs : Nat) (xrm : Nat) (xrd : Nat) (xhr : Nat) (xki : Nat) (xin : Nat) (xpl : Nat) (xle : Nat) (xso : Nat) (xva : Nat) (xck : Nat) (xci : Nat) (xcp : Nat) (xcl : Nat) (xcs : Nat) (xcv : Nat) (vth : Int32) (vtp : Int32) (vme : Int32) (vta : Int32) (vpl : Int32) (vel : Int32) (vsg : Int32) (vus : Int32) (vrw : Int32) (vur : Int32) (vwr : Int32) (vch : Int32) (gpg : Nat → Int32) (gli : Nat → Int32) (pg : Int32) (lim : Int32) (sz : Nat) (post : Int32 → (Int32 × Int32 × Int32 × (Nat → Int32) × (Nat → Int32)) → Prop) (hw : wp_Md_memory post vth vtp vme vta vpl vel vsg vus vrw vur vwr vch gpg gli pg lim) : Met l y_Md_memory [.code y_Md_memory b_Md_memory 3 (some .int)] ({ frames := 4, cells := 0, slots := 0, locals := 140 } : Room) (cm G [.ref h, .int pg, .int lim] [(h, .inr (2, [.int vth, .int vtp, .int vme, .int vta, .int vpl, .int vel, .ref xpg, .ref xli, .ref xty, .ref xen, .ref xtl, .int vsg, .int vus, .int vrw, .int vur, .ref xst, .ref xmn, .ref xdr, .ref xhe, .ref xrs, .ref xrm, .ref xrd, .ref xhr, .int vwr, .int vch, .ref xki, .ref xin, .ref xpl, .ref xle, .ref xso, .ref xva, .ref xck, .ref xci, .ref xcp, .ref xcl, .ref xcs, .ref xcv])), (xpg, .inl (G.2.1 0, 6, .inl gpg)), (xli, .inl (G.2.1 0, 6, .inl gli))] sz) (va_Qi post (fun u t => va_P G.1 vwC [(h, .inr (2, [.int u.1, .int vtp, .int u.2.1, .int vta, .int u.2.2.1, .int vel, .ref xpg, .ref xli, .ref xty, .ref xen, .ref xtl, .int vsg, .int vus, .int vrw, .int vur, .ref xst, .ref xmn, .ref xdr, .ref xhe, .ref xrs, .ref xrm, .ref xrd, .ref xhr, .int vwr, .int vch, .ref xki, .ref xin, .ref xpl, .ref xle, .ref xso, .ref xva, .ref xck, .ref xci, .ref xcp, .ref xcl, .ref xcs, .ref xcv])), (xpg, .inl (G.2.1 0, 6, .inl u.2.2.2.1)), (xli, .inl (G.2.1 0, 6, .inl u.2.2.2.2))] t.heap) (va_A [(h, .inr (2, [.int vth, .int vtp, .int vme, .int vta, .int vpl, .int vel, .ref xpg, .ref xli, .ref xty, .ref xen, .ref xtl, .int vsg, .int vus, .int vrw, .int vur, .ref xst, .ref xmn, .ref xdr, .ref xhe, .ref xrs, .ref xrm, .ref xrd, .ref xhr, .int vwr, .int vch, .ref xki, .ref xin, .ref xpl, .ref xle, .ref xso, .ref xva, .ref xck, .ref xci, .ref xcp, .ref xcl, .ref xcs, .ref xcv])), (xpg, .inl (G.2.1 0, 6, .inl gpg)), (xli, .inl (G.2.1 0, 6, .inl gli))] sz)) 0 0 (va_A [(h, .inr (2, [.int vth, .int vtp, .int vme, .int vta, .int vpl, .int vel, .ref xpg, .ref xli, .ref xty, .ref xen, .ref xtl, .int vsg, .int vus, .int vrw, .int vur, .ref xst, .ref xmn, .ref xdr, .ref xhe, .ref xrs, .ref xrm, .ref xrd, .ref xhr, .int vwr, .int vch, .ref xki, .ref xin, .ref xpl, .ref xle, .ref xso, .ref xva, .ref xck, .ref xci, .ref xcp, .ref xcl, .ref xcs, .ref xcv])), (xpg, .inl (G.2.1 0, 6, .inl gpg)), (xli, .inl (G.2.1 0, 6, .inl gli))] sz) := by
  refine Met.ofW (cc := b_Md_memory) (maxL := 3) (ret := (some .int)) (by decide +kernel) rfl ?_
  intro p e s m args below meth c s₁ B hml hv
  obtain ⟨rfl, hsz, hcx, hP, hD0⟩ := hv
  have hx := B.exec
  have hb := B.bytes
  have hr := B.returns
  have hlocks := B.notSynchronized
  have hown : s.vm.findClass R_Md = some m.cls := findClass_of_methodNamed B.named
  subst hsz
  have hD := hD0.self (sz := s.heap.size)
  generalize hAe : va_A [(h, .inr (2, [.int vth, .int vtp, .int vme, .int vta, .int vpl, .int vel, .ref xpg, .ref xli, .ref xty, .ref xen, .ref xtl, .int vsg, .int vus, .int vrw, .int vur, .ref xst, .ref xmn, .ref xdr, .ref xhe, .ref xrs, .ref xrm, .ref xrd, .ref xhr, .int vwr, .int vch, .ref xki, .ref xin, .ref xpl, .ref xle, .ref xso, .ref xva, .ref xck, .ref xci, .ref xcp, .ref xcl, .ref xcs, .ref xcv])), (xpg, .inl (G.2.1 0, 6, .inl gpg)), (xli, .inl (G.2.1 0, 6, .inl gli))] s.heap.size = A at hD hcx ⊢
  have hA : ∀ q : Nat, s.heap.size ≤ q → A q := fun q h => by rw [← hAe]; exact Or.inr h
  have hS : va_S A s.heap s.heap [] := va_S.rf
  have hts := hcx.now.1 [.ref h, .int pg, .int lim].toArray
  have hK := hcx.now.2.1
  have hl := lv_entry ([.ref h, .int pg, .int lim]) (n := 3) (Nat.le_of_ble_eq_true rfl)
  rw [lg_entry_eq]
  generalize (lg_sl ([.ref h, .int pg, .int lim]) ++ List.replicate (3 - (lg_sl ([.ref h, .int pg, .int lim])).length) Slot.unset).toArray = ls at hl ⊢
  have hl : lv_has ls 3 [(0, .ref h), (1, .int pg), (2, .int lim)] := hl
  unfold wp_Md_memory at hw
  refine lv_aload_n hx hb d_Md_memory_0 rfl (lv_at hl 0 rfl) ?_
  refine lv_iconst (v := 0) hx hb d_Md_memory_1 (by decide) ?_
  refine va_put (D := G.1) (ci := 2) (v := .int 0) (ty := (.int)) (C := R_Md) (T := T_Md) (N := 37) hx hb hts in_Md ty_Md tk_Md nm_Md hown hK hP hD hS 0 rfl rfl 0 (by decide) (hts _ fl_Md_94) (fun _ h9 => h9) rfl (by decide +kernel) rfl rfl (Nat.le_of_ble_eq_true rfl) d_Md_memory_2 (fun H locs hP hD hS => ?_)
  have hP : va_P G.1 vwC [(h, .inr (2, [.int 0, .int vtp, .int vme, .int vta, .int vpl, .int vel, .ref xpg, .ref xli, .ref xty, .ref xen, .ref xtl, .int vsg, .int vus, .int vrw, .int vur, .ref xst, .ref xmn, .ref xdr, .ref xhe, .ref xrs, .ref xrm, .ref xrd, .ref xhr, .int vwr, .int vch, .ref xki, .ref xin, .ref xpl, .ref xle, .ref xso, .ref xva, .ref xck, .ref xci, .ref xcp, .ref xcl, .ref xcs, .ref xcv])), (xpg, .inl (G.2.1 0, 6, .inl gpg)), (xli, .inl (G.2.1 0, 6, .inl gli))] H := hP
  have hD : va_D A [(h, .inr (2, [.int 0, .int vtp, .int vme, .int vta, .int vpl, .int vel, .ref xpg, .ref xli, .ref xty, .ref xen, .ref xtl, .int vsg, .int vus, .int vrw, .int vur, .ref xst, .ref xmn, .ref xdr, .ref xhe, .ref xrs, .ref xrm, .ref xrd, .ref xhr, .int vwr, .int vch, .ref xki, .ref xin, .ref xpl, .ref xle, .ref xso, .ref xva, .ref xck, .ref xci, .ref xcp, .ref xcl, .ref xcs, .ref xcv])), (xpg, .inl (G.2.1 0, 6, .inl gpg)), (xli, .inl (G.2.1 0, 6, .inl gli))] := hD
  refine lv_aload_n hx hb d_Md_memory_5 rfl (lv_at hl 0 rfl) ?_
  refine va_get (D := G.1) (ci := 2) (v := .int vme) (C := R_Md) (T := T_Md) (N := 37) hx hb hts in_Md hown hK hP 0 rfl rfl 2 (by decide) (hts _ fl_Md_99) (fun _ h9 => h9) rfl d_Md_memory_6 ?_
  refine lv_bipush (v := 6) hx hb d_Md_memory_9 (by decide) ?_
  refine lv_icmp_eq (tgt := 37) hx hb d_Md_memory_11 (by decide) (fun c_1 => ?_) (fun c_1 => ?_)
  · replace hw := hw.1 c_1
    refine lv_iconst (v := (-1)) hx hb d_Md_memory_37 (by decide) ?_
    exact W.iret (v := (-1)) hx hb hr (fun t ht hW => ⟨⟨(-1), (0, vme, vpl, gpg, gli), rfl, hw, by have h9 := hP; rw [← ht] at h9; exact h9⟩, hS.F ht⟩) hS.2.2 d_Md_memory_38
  · replace hw := hw.2 c_1
    refine lv_iload_n hx hb d_Md_memory_14 rfl (lv_at hl 1 rfl) ?_
    refine lv_if_lt (tgt := 37) hx hb d_Md_memory_15 (by decide) (fun c_2 => ?_) (fun c_2 => ?_)
    · replace hw := hw.1 c_2
      refine lv_iconst (v := (-1)) hx hb d_Md_memory_37 (by decide) ?_
      exact W.iret (v := (-1)) hx hb hr (fun t ht hW => ⟨⟨(-1), (0, vme, vpl, gpg, gli), rfl, hw, by have h9 := hP; rw [← ht] at h9; exact h9⟩, hS.F ht⟩) hS.2.2 d_Md_memory_38
    · replace hw := hw.2 c_2
      refine lv_iload_n hx hb d_Md_memory_18 rfl (lv_at hl 1 rfl) ?_
      refine lv_iload_n hx hb d_Md_memory_19 rfl (lv_at hl 2 rfl) ?_
      refine lv_icmp_gt (tgt := 37) hx hb d_Md_memory_20 (by decide) (fun c_3 => ?_) (fun c_3 => ?_)
      · replace hw := hw.1 c_3
        refine lv_iconst (v := (-1)) hx hb d_Md_memory_37 (by decide) ?_
        exact W.iret (v := (-1)) hx hb hr (fun t ht hW => ⟨⟨(-1), (0, vme, vpl, gpg, gli), rfl, hw, by have h9 := hP; rw [← ht] at h9; exact h9⟩, hS.F ht⟩) hS.2.2 d_Md_memory_38
      · replace hw := hw.2 c_3
        refine lv_iload_n hx hb d_Md_memory_23 rfl (lv_at hl 2 rfl) ?_
        refine lv_ldc (v := 65536) hx hb hown (hts _ k_Md_118) d_Md_memory_24 ?_
        refine lv_icmp_gt (tgt := 37) hx hb d_Md_memory_26 (by decide) (fun c_4 => ?_) (fun c_4 => ?_)
        · replace hw := hw.1 c_4
          refine lv_iconst (v := (-1)) hx hb d_Md_memory_37 (by decide) ?_
          exact W.iret (v := (-1)) hx hb hr (fun t ht hW => ⟨⟨(-1), (0, vme, vpl, gpg, gli), rfl, hw, by have h9 := hP; rw [← ht] at h9; exact h9⟩, hS.F ht⟩) hS.2.2 d_Md_memory_38
        · replace hw := hw.2 c_4
          refine lv_iload_n hx hb d_Md_memory_29 rfl (lv_at hl 1 rfl) ?_
          refine lv_aload_n hx hb d_Md_memory_30 rfl (lv_at hl 0 rfl) ?_
          refine va_get (D := G.1) (ci := 2) (v := .int vpl) (C := R_Md) (T := T_Md) (N := 37) hx hb hts in_Md hown hK hP 0 rfl rfl 4 (by decide) (hts _ fl_Md_9) (fun _ h9 => h9) rfl d_Md_memory_31 ?_
          refine lv_icmp_le (tgt := 39) hx hb d_Md_memory_34 (by decide) (fun c_5 => ?_) (fun c_5 => ?_)
          · replace hw := hw.1 c_5
            refine lv_aload_n hx hb d_Md_memory_39 rfl (lv_at hl 0 rfl) ?_
            refine va_get (D := G.1) (ci := 2) (v := .ref xpg) (C := R_Md) (T := T_Md) (N := 37) hx hb hts in_Md hown hK hP 0 rfl rfl 6 (by decide) (hts _ fl_Md_16) (fun _ h9 => h9) rfl d_Md_memory_40 ?_
            refine lv_aload_n hx hb d_Md_memory_43 rfl (lv_at hl 0 rfl) ?_
            refine va_get (D := G.1) (ci := 2) (v := .int vme) (C := R_Md) (T := T_Md) (N := 37) hx hb hts in_Md hown hK hP 0 rfl rfl 2 (by decide) (hts _ fl_Md_99) (fun _ h9 => h9) rfl d_Md_memory_44 ?_
            refine lv_iload_n hx hb d_Md_memory_47 rfl (lv_at hl 1 rfl) ?_
            obtain ⟨h_6, hw⟩ := hw
            obtain ⟨a_7, ea_7⟩ : ∃ z, z = upd gpg vme.toNatClampNeg pg := ⟨_, rfl⟩
            replace hw := hw a_7 ea_7
            refine va_iast hx hb hK hP hD hS 1 0 rfl rfl h_6 d_Md_memory_48 (fun H locs hP hD hS => ?_)
            rw [← ea_7] at hP hD
            have hP : va_P G.1 vwC [(h, .inr (2, [.int 0, .int vtp, .int vme, .int vta, .int vpl, .int vel, .ref xpg, .ref xli, .ref xty, .ref xen, .ref xtl, .int vsg, .int vus, .int vrw, .int vur, .ref xst, .ref xmn, .ref xdr, .ref xhe, .ref xrs, .ref xrm, .ref xrd, .ref xhr, .int vwr, .int vch, .ref xki, .ref xin, .ref xpl, .ref xle, .ref xso, .ref xva, .ref xck, .ref xci, .ref xcp, .ref xcl, .ref xcs, .ref xcv])), (xpg, .inl (G.2.1 0, 6, .inl a_7)), (xli, .inl (G.2.1 0, 6, .inl gli))] H := hP
            have hD : va_D A [(h, .inr (2, [.int 0, .int vtp, .int vme, .int vta, .int vpl, .int vel, .ref xpg, .ref xli, .ref xty, .ref xen, .ref xtl, .int vsg, .int vus, .int vrw, .int vur, .ref xst, .ref xmn, .ref xdr, .ref xhe, .ref xrs, .ref xrm, .ref xrd, .ref xhr, .int vwr, .int vch, .ref xki, .ref xin, .ref xpl, .ref xle, .ref xso, .ref xva, .ref xck, .ref xci, .ref xcp, .ref xcl, .ref xcs, .ref xcv])), (xpg, .inl (G.2.1 0, 6, .inl a_7)), (xli, .inl (G.2.1 0, 6, .inl gli))] := hD
            refine lv_aload_n hx hb d_Md_memory_49 rfl (lv_at hl 0 rfl) ?_
            refine va_get (D := G.1) (ci := 2) (v := .ref xli) (C := R_Md) (T := T_Md) (N := 37) hx hb hts in_Md hown hK hP 0 rfl rfl 7 (by decide) (hts _ fl_Md_20) (fun _ h9 => h9) rfl d_Md_memory_50 ?_
            refine lv_aload_n hx hb d_Md_memory_53 rfl (lv_at hl 0 rfl) ?_
            refine va_get (D := G.1) (ci := 2) (v := .int vme) (C := R_Md) (T := T_Md) (N := 37) hx hb hts in_Md hown hK hP 0 rfl rfl 2 (by decide) (hts _ fl_Md_99) (fun _ h9 => h9) rfl d_Md_memory_54 ?_
            refine lv_iload_n hx hb d_Md_memory_57 rfl (lv_at hl 2 rfl) ?_
            obtain ⟨h_8, hw⟩ := hw
            obtain ⟨a_9, ea_9⟩ : ∃ z, z = upd gli vme.toNatClampNeg lim := ⟨_, rfl⟩
            replace hw := hw a_9 ea_9
            refine va_iast hx hb hK hP hD hS 2 0 rfl rfl h_8 d_Md_memory_58 (fun H locs hP hD hS => ?_)
            rw [← ea_9] at hP hD
            have hP : va_P G.1 vwC [(h, .inr (2, [.int 0, .int vtp, .int vme, .int vta, .int vpl, .int vel, .ref xpg, .ref xli, .ref xty, .ref xen, .ref xtl, .int vsg, .int vus, .int vrw, .int vur, .ref xst, .ref xmn, .ref xdr, .ref xhe, .ref xrs, .ref xrm, .ref xrd, .ref xhr, .int vwr, .int vch, .ref xki, .ref xin, .ref xpl, .ref xle, .ref xso, .ref xva, .ref xck, .ref xci, .ref xcp, .ref xcl, .ref xcs, .ref xcv])), (xpg, .inl (G.2.1 0, 6, .inl a_7)), (xli, .inl (G.2.1 0, 6, .inl a_9))] H := hP
            have hD : va_D A [(h, .inr (2, [.int 0, .int vtp, .int vme, .int vta, .int vpl, .int vel, .ref xpg, .ref xli, .ref xty, .ref xen, .ref xtl, .int vsg, .int vus, .int vrw, .int vur, .ref xst, .ref xmn, .ref xdr, .ref xhe, .ref xrs, .ref xrm, .ref xrd, .ref xhr, .int vwr, .int vch, .ref xki, .ref xin, .ref xpl, .ref xle, .ref xso, .ref xva, .ref xck, .ref xci, .ref xcp, .ref xcl, .ref xcs, .ref xcv])), (xpg, .inl (G.2.1 0, 6, .inl a_7)), (xli, .inl (G.2.1 0, 6, .inl a_9))] := hD
            refine lv_aload_n hx hb d_Md_memory_59 rfl (lv_at hl 0 rfl) ?_
            refine lv_dup hx hb d_Md_memory_60 rfl ?_
            refine va_get (D := G.1) (ci := 2) (v := .int vpl) (C := R_Md) (T := T_Md) (N := 37) hx hb hts in_Md hown hK hP 0 rfl rfl 4 (by decide) (hts _ fl_Md_9) (fun _ h9 => h9) rfl d_Md_memory_61 ?_
            refine lv_iload_n hx hb d_Md_memory_64 rfl (lv_at hl 1 rfl) ?_
            refine lv_isub hx hb d_Md_memory_65 ?_
            refine lv_topi (fun x_10 ex_10 => ?_)
            replace hw := hw x_10 ex_10
            refine va_put (D := G.1) (ci := 2) (v := .int x_10) (ty := (.int)) (C := R_Md) (T := T_Md) (N := 37) hx hb hts in_Md ty_Md tk_Md nm_Md hown hK hP hD hS 0 rfl rfl 4 (by decide) (hts _ fl_Md_9) (fun _ h9 => h9) rfl (by decide +kernel) rfl rfl (Nat.le_of_ble_eq_true rfl) d_Md_memory_66 (fun H locs hP hD hS => ?_)
            have hP : va_P G.1 vwC [(h, .inr (2, [.int 0, .int vtp, .int vme, .int vta, .int x_10, .int vel, .ref xpg, .ref xli, .ref xty, .ref xen, .ref xtl, .int vsg, .int vus, .int vrw, .int vur, .ref xst, .ref xmn, .ref xdr, .ref xhe, .ref xrs, .ref xrm, .ref xrd, .ref xhr, .int vwr, .int vch, .ref xki, .ref xin, .ref xpl, .ref xle, .ref xso, .ref xva, .ref xck, .ref xci, .ref xcp, .ref xcl, .ref xcs, .ref xcv])), (xpg, .inl (G.2.1 0, 6, .inl a_7)), (xli, .inl (G.2.1 0, 6, .inl a_9))] H := hP
            have hD : va_D A [(h, .inr (2, [.int 0, .int vtp, .int vme, .int vta, .int x_10, .int vel, .ref xpg, .ref xli, .ref xty, .ref xen, .ref xtl, .int vsg, .int vus, .int vrw, .int vur, .ref xst, .ref xmn, .ref xdr, .ref xhe, .ref xrs, .ref xrm, .ref xrd, .ref xhr, .int vwr, .int vch, .ref xki, .ref xin, .ref xpl, .ref xle, .ref xso, .ref xva, .ref xck, .ref xci, .ref xcp, .ref xcl, .ref xcs, .ref xcv])), (xpg, .inl (G.2.1 0, 6, .inl a_7)), (xli, .inl (G.2.1 0, 6, .inl a_9))] := hD
            refine lv_aload_n hx hb d_Md_memory_69 rfl (lv_at hl 0 rfl) ?_
            refine lv_dup hx hb d_Md_memory_70 rfl ?_
            refine va_get (D := G.1) (ci := 2) (v := .int vme) (C := R_Md) (T := T_Md) (N := 37) hx hb hts in_Md hown hK hP 0 rfl rfl 2 (by decide) (hts _ fl_Md_99) (fun _ h9 => h9) rfl d_Md_memory_71 ?_
            refine lv_iconst (v := 1) hx hb d_Md_memory_74 (by decide) ?_
            refine lv_iadd hx hb d_Md_memory_75 ?_
            refine lv_topi (fun x_11 ex_11 => ?_)
            replace hw := hw x_11 ex_11
            refine va_put (D := G.1) (ci := 2) (v := .int x_11) (ty := (.int)) (C := R_Md) (T := T_Md) (N := 37) hx hb hts in_Md ty_Md tk_Md nm_Md hown hK hP hD hS 0 rfl rfl 2 (by decide) (hts _ fl_Md_99) (fun _ h9 => h9) rfl (by decide +kernel) rfl rfl (Nat.le_of_ble_eq_true rfl) d_Md_memory_76 (fun H locs hP hD hS => ?_)
            have hP : va_P G.1 vwC [(h, .inr (2, [.int 0, .int vtp, .int x_11, .int vta, .int x_10, .int vel, .ref xpg, .ref xli, .ref xty, .ref xen, .ref xtl, .int vsg, .int vus, .int vrw, .int vur, .ref xst, .ref xmn, .ref xdr, .ref xhe, .ref xrs, .ref xrm, .ref xrd, .ref xhr, .int vwr, .int vch, .ref xki, .ref xin, .ref xpl, .ref xle, .ref xso, .ref xva, .ref xck, .ref xci, .ref xcp, .ref xcl, .ref xcs, .ref xcv])), (xpg, .inl (G.2.1 0, 6, .inl a_7)), (xli, .inl (G.2.1 0, 6, .inl a_9))] H := hP
            have hD : va_D A [(h, .inr (2, [.int 0, .int vtp, .int x_11, .int vta, .int x_10, .int vel, .ref xpg, .ref xli, .ref xty, .ref xen, .ref xtl, .int vsg, .int vus, .int vrw, .int vur, .ref xst, .ref xmn, .ref xdr, .ref xhe, .ref xrs, .ref xrm, .ref xrd, .ref xhr, .int vwr, .int vch, .ref xki, .ref xin, .ref xpl, .ref xle, .ref xso, .ref xva, .ref xck, .ref xci, .ref xcp, .ref xcl, .ref xcs, .ref xcv])), (xpg, .inl (G.2.1 0, 6, .inl a_7)), (xli, .inl (G.2.1 0, 6, .inl a_9))] := hD
            refine lv_aload_n hx hb d_Md_memory_79 rfl (lv_at hl 0 rfl) ?_
            refine va_get (D := G.1) (ci := 2) (v := .int x_11) (C := R_Md) (T := T_Md) (N := 37) hx hb hts in_Md hown hK hP 0 rfl rfl 2 (by decide) (hts _ fl_Md_99) (fun _ h9 => h9) rfl d_Md_memory_80 ?_
            refine lv_iconst (v := 1) hx hb d_Md_memory_83 (by decide) ?_
            refine lv_isub hx hb d_Md_memory_84 ?_
            exact W.iret (v := x_11 - 1) hx hb hr (fun t ht hW => ⟨⟨x_11 - 1, (0, x_11, x_10, a_7, a_9), rfl, hw, by have h9 := hP; rw [← ht] at h9; exact h9⟩, hS.F ht⟩) hS.2.2 d_Md_memory_85
          · replace hw := hw.2 c_5
            refine lv_iconst (v := (-1)) hx hb d_Md_memory_37 (by decide) ?_
            exact W.iret (v := (-1)) hx hb hr (fun t ht hW => ⟨⟨(-1), (0, vme, vpl, gpg, gli), rfl, hw, by have h9 := hP; rw [← ht] at h9; exact h9⟩, hS.F ht⟩) hS.2.2 d_Md_memory_38
def wp_Md_grow (post : Int32 → (Int32 × Int32 × (Nat → Int32)) → Prop) (vth : Int32) (vtp : Int32) (vme : Int32) (vta : Int32) (vpl : Int32) (vel : Int32) (vsg : Int32) (vus : Int32) (vrw : Int32) (vur : Int32) (vwr : Int32) (vch : Int32) (gpg : Nat → Int32) (gli : Nat → Int32) (k : Int32) (ng : Int32) : Prop := ((ly_has vme k = 0 → (post (-1) (0, vpl, gpg))) ∧ (¬ ly_has vme k = 0 → ((vp_in k 6) ∧ ((vp_in k 6) ∧ (((0 < lg_cmp (((gpg k.toNatClampNeg).toInt64) + (u32 ng)) ((gli k.toNatClampNeg).toInt64) → (post (-1) (0, vpl, gpg))) ∧ (¬ 0 < lg_cmp (((gpg k.toNatClampNeg).toInt64) + (u32 ng)) ((gli k.toNatClampNeg).toInt64) → (((lg_cmp (u32 ng) vpl.toInt64 ≤ 0 → ((vp_in k 6) ∧ (∀ x_7 : Int32, x_7 = gpg k.toNatClampNeg → ((vp_in k 6) ∧ ((vp_in k 6) ∧ ∀ a_10 : Nat → Int32, a_10 = upd gpg k.toNatClampNeg ((gpg k.toNatClampNeg) + ng) → (∀ x_11 : Int32, x_11 = vpl - ng → (post x_7 (0, x_11, a_10)))))))) ∧ (¬ lg_cmp (u32 ng) vpl.toInt64 ≤ 0 → (post (-1) (0, vpl, gpg))))))))))))
set_option maxHeartbeats 4000000 in
set_option maxRecDepth 100000 in
theorem t_Md_grow (l : Launch) (G : cxT) (h : Nat) (xpg : Nat) (xli : Nat) (xty : Nat) (xen : Nat) (xtl : Nat) (xst : Nat) (xmn : Nat) (xdr : Nat) (xhe : Nat) (xrs : Nat) (xrm : Nat) (xrd : Nat) (xhr : Nat) (xki : Nat) (xin : Nat) (xpl : Nat) (xle : Nat) (xso : Nat) (xva : Nat) (xck : Nat) (xci : Nat) (xcp : Nat) (xcl : Nat) (xcs : Nat) (xcv : Nat) (vth : Int32) (vtp : Int32) (vme : Int32) (vta : Int32) (vpl : Int32) (vel : Int32) (vsg : Int32) (vus : Int32) (vrw : Int32) (vur : Int32) (vwr : Int32) (vch : Int32) (gpg : Nat → Int32) (gli : Nat → Int32) (k : Int32) (ng : Int32) (sz : Nat) (post : Int32 → (Int32 × Int32 × (Nat → Int32)) → Prop) (hw : wp_Md_grow post vth vtp vme vta vpl vel vsg vus vrw vur vwr vch gpg gli k ng) : Met l y_Md_grow [.code y_Md_grow b_Md_grow 4 (some .int)] ({ frames := 4, cells := 0, slots := 0, locals := 140 } : Room) (cm G [.ref h, .int k, .int ng] [(h, .inr (2, [.int vth, .int vtp, .int vme, .int vta, .int vpl, .int vel, .ref xpg, .ref xli, .ref xty, .ref xen, .ref xtl, .int vsg, .int vus, .int vrw, .int vur, .ref xst, .ref xmn, .ref xdr, .ref xhe, .ref xrs, .ref xrm, .ref xrd, .ref xhr, .int vwr, .int vch, .ref xki, .ref xin, .ref xpl, .ref xle, .ref xso, .ref xva, .ref xck, .ref xci, .ref xcp, .ref xcl, .ref xcs, .ref xcv])), (xpg, .inl (G.2.1 0, 6, .inl gpg)), (xli, .inl (G.2.1 0, 6, .inl gli))] sz) (va_Qi post (fun u t => va_P G.1 vwC [(h, .inr (2, [.int u.1, .int vtp, .int vme, .int vta, .int u.2.1, .int vel, .ref xpg, .ref xli, .ref xty, .ref xen, .ref xtl, .int vsg, .int vus, .int vrw, .int vur, .ref xst, .ref xmn, .ref xdr, .ref xhe, .ref xrs, .ref xrm, .ref xrd, .ref xhr, .int vwr, .int vch, .ref xki, .ref xin, .ref xpl, .ref xle, .ref xso, .ref xva, .ref xck, .ref xci, .ref xcp, .ref xcl, .ref xcs, .ref xcv])), (xpg, .inl (G.2.1 0, 6, .inl u.2.2)), (xli, .inl (G.2.1 0, 6, .inl gli))] t.heap) (va_A [(h, .inr (2, [.int vth, .int vtp, .int vme, .int vta, .int vpl, .int vel, .ref xpg, .ref xli, .ref xty, .ref xen, .ref xtl, .int vsg, .int vus, .int vrw, .int vur, .ref xst, .ref xmn, .ref xdr, .ref xhe, .ref xrs, .ref xrm, .ref xrd, .ref xhr, .int vwr, .int vch, .ref xki, .ref xin, .ref xpl, .ref xle, .ref xso, .ref xva, .ref xck, .ref xci, .ref xcp, .ref xcl, .ref xcs, .ref xcv])), (xpg, .inl (G.2.1 0, 6, .inl gpg)), (xli, .inl (G.2.1 0, 6, .inl gli))] sz)) 0 0 (va_A [(h, .inr (2, [.int vth, .int vtp, .int vme, .int vta, .int vpl, .int vel, .ref xpg, .ref xli, .ref xty, .ref xen, .ref xtl, .int vsg, .int vus, .int vrw, .int vur, .ref xst, .ref xmn, .ref xdr, .ref xhe, .ref xrs, .ref xrm, .ref xrd, .ref xhr, .int vwr, .int vch, .ref xki, .ref xin, .ref xpl, .ref xle, .ref xso, .ref xva, .ref xck, .ref xci, .ref xcp, .ref xcl, .ref xcs, .ref xcv])), (xpg, .inl (G.2.1 0, 6, .inl gpg)), (xli, .inl (G.2.1 0, 6, .inl gli))] sz) := by
  refine Met.ofW (cc := b_Md_grow) (maxL := 4) (ret := (some .int)) (by decide +kernel) rfl ?_
  intro p e s m args below meth c s₁ B hml hv
  obtain ⟨rfl, hsz, hcx, hP, hD0⟩ := hv
  have hx := B.exec
  have hb := B.bytes
  have hr := B.returns
  have hlocks := B.notSynchronized
  have hown : s.vm.findClass R_Md = some m.cls := findClass_of_methodNamed B.named
  subst hsz
  have hD := hD0.self (sz := s.heap.size)
  generalize hAe : va_A [(h, .inr (2, [.int vth, .int vtp, .int vme, .int vta, .int vpl, .int vel, .ref xpg, .ref xli, .ref xty, .ref xen, .ref xtl, .int vsg, .int vus, .int vrw, .int vur, .ref xst, .ref xmn, .ref xdr, .ref xhe, .ref xrs, .ref xrm, .ref xrd, .ref xhr, .int vwr, .int vch, .ref xki, .ref xin, .ref xpl, .ref xle, .ref xso, .ref xva, .ref xck, .ref xci, .ref xcp, .ref xcl, .ref xcs, .ref xcv])), (xpg, .inl (G.2.1 0, 6, .inl gpg)), (xli, .inl (G.2.1 0, 6, .inl gli))] s.heap.size = A at hD hcx ⊢
  have hA : ∀ q : Nat, s.heap.size ≤ q → A q := fun q h => by rw [← hAe]; exact Or.inr h
  have hS : va_S A s.heap s.heap [] := va_S.rf
  have hts := hcx.now.1 [.ref h, .int k, .int ng].toArray
  have hK := hcx.now.2.1
  have hl := lv_entry ([.ref h, .int k, .int ng]) (n := 4) (Nat.le_of_ble_eq_true rfl)
  rw [lg_entry_eq]
  generalize (lg_sl ([.ref h, .int k, .int ng]) ++ List.replicate (4 - (lg_sl ([.ref h, .int k, .int ng])).length) Slot.unset).toArray = ls at hl ⊢
  have hl : lv_has ls 4 [(0, .ref h), (1, .int k), (2, .int ng)] := hl
  unfold wp_Md_grow at hw
  refine lv_aload_n hx hb d_Md_grow_0 rfl (lv_at hl 0 rfl) ?_
  refine lv_iconst (v := 0) hx hb d_Md_grow_1 (by decide) ?_
  refine va_put (D := G.1) (ci := 2) (v := .int 0) (ty := (.int)) (C := R_Md) (T := T_Md) (N := 37) hx hb hts in_Md ty_Md tk_Md nm_Md hown hK hP hD hS 0 rfl rfl 0 (by decide) (hts _ fl_Md_94) (fun _ h9 => h9) rfl (by decide +kernel) rfl rfl (Nat.le_of_ble_eq_true rfl) d_Md_grow_2 (fun H locs hP hD hS => ?_)
  have hP : va_P G.1 vwC [(h, .inr (2, [.int 0, .int vtp, .int vme, .int vta, .int vpl, .int vel, .ref xpg, .ref xli, .ref xty, .ref xen, .ref xtl, .int vsg, .int vus, .int vrw, .int vur, .ref xst, .ref xmn, .ref xdr, .ref xhe, .ref xrs, .ref xrm, .ref xrd, .ref xhr, .int vwr, .int vch, .ref xki, .ref xin, .ref xpl, .ref xle, .ref xso, .ref xva, .ref xck, .ref xci, .ref xcp, .ref xcl, .ref xcs, .ref xcv])), (xpg, .inl (G.2.1 0, 6, .inl gpg)), (xli, .inl (G.2.1 0, 6, .inl gli))] H := hP
  have hD : va_D A [(h, .inr (2, [.int 0, .int vtp, .int vme, .int vta, .int vpl, .int vel, .ref xpg, .ref xli, .ref xty, .ref xen, .ref xtl, .int vsg, .int vus, .int vrw, .int vur, .ref xst, .ref xmn, .ref xdr, .ref xhe, .ref xrs, .ref xrm, .ref xrd, .ref xhr, .int vwr, .int vch, .ref xki, .ref xin, .ref xpl, .ref xle, .ref xso, .ref xva, .ref xck, .ref xci, .ref xcp, .ref xcl, .ref xcs, .ref xcv])), (xpg, .inl (G.2.1 0, 6, .inl gpg)), (xli, .inl (G.2.1 0, 6, .inl gli))] := hD
  refine lv_aload_n hx hb d_Md_grow_5 rfl (lv_at hl 0 rfl) ?_
  refine lv_iload_n hx hb d_Md_grow_6 rfl (lv_at hl 1 rfl) ?_
  have hPc := hP.sub (ws' := [(h, .inr (2, [.int 0, .int vtp, .int vme, .int vta, .int vpl, .int vel, .ref xpg, .ref xli, .ref xty, .ref xen, .ref xtl, .int vsg, .int vus, .int vrw, .int vur, .ref xst, .ref xmn, .ref xdr, .ref xhe, .ref xrs, .ref xrm, .ref xrd, .ref xhr, .int vwr, .int vch, .ref xki, .ref xin, .ref xpl, .ref xle, .ref xso, .ref xva, .ref xck, .ref xci, .ref xcp, .ref xcl, .ref xcs, .ref xcv]))]) [0] rfl
  refine pu_i (va_runV (As := [.int k]) (rest := []) ⟨hx, hb, hml, hown, hts⟩ (c_Md_isMemory l G h xpg xli xty xen xtl xst xmn xdr xhe xrs xrm xrd xhr xki xin xpl xle xso xva xck xci xcp xcl xcs xcv 0 vtp vme vta vpl vel vsg vus vrw vur vwr vch k) (cwV 1 hts (gi_V ml_Md_119 im_Md_isMemory se_Md_isMemory ini_Md co_Md_isMemory) rfl rfl rfl (by decide +kernel) ⟨Nat.le_of_ble_eq_true rfl, Nat.le_of_ble_eq_true rfl⟩) ⟨cp_blind, va_recv hK hPc (ci := 2) (q0 := 0) rfl rfl, cp_pre hcx hS hPc⟩ rfl rfl hl.1 rfl (lv_room (Nat.le_of_ble_eq_true rfl)) d_Md_grow_7 ⟨Nat.le_of_ble_eq_true rfl, Nat.le_of_ble_eq_true rfl⟩) hS hP (fun H locs hP hS => ?_)
  refine lv_if_eq (tgt := 49) hx hb d_Md_grow_10 (by decide) (fun c_1 => ?_) (fun c_1 => ?_)
  · replace hw := hw.1 c_1
    refine lv_iconst (v := (-1)) hx hb d_Md_grow_49 (by decide) ?_
    exact W.iret (v := (-1)) hx hb hr (fun t ht hW => ⟨⟨(-1), (0, vpl, gpg), rfl, hw, by have h9 := hP; rw [← ht] at h9; exact h9⟩, hS.F ht⟩) hS.2.2 d_Md_grow_50
  · replace hw := hw.2 c_1
    refine lv_aload_n hx hb d_Md_grow_13 rfl (lv_at hl 0 rfl) ?_
    refine va_get (D := G.1) (ci := 2) (v := .ref xpg) (C := R_Md) (T := T_Md) (N := 37) hx hb hts in_Md hown hK hP 0 rfl rfl 6 (by decide) (hts _ fl_Md_16) (fun _ h9 => h9) rfl d_Md_grow_14 ?_
    refine lv_iload_n hx hb d_Md_grow_17 rfl (lv_at hl 1 rfl) ?_
    obtain ⟨h_2, hw⟩ := hw
    refine va_iald hx hb hK hP 1 0 rfl rfl h_2 d_Md_grow_18 ?_
    refine lv_i2l (v := (gpg k.toNatClampNeg).toInt64) hx hb d_Md_grow_19 rfl ?_
    refine lv_iload_n hx hb d_Md_grow_20 rfl (lv_at hl 2 rfl) ?_
    have hPc := hP.sub (ws' := []) [] rfl
    refine pu_l (va_runS (As := [.int ng]) (rest := [.long ((gpg k.toNatClampNeg).toInt64)]) ⟨hx, hb, hml, hown, hts⟩ (c_Md_wide l G ng) (va_cwS 1 hts (gi_S ml_Md_123 sm_Md_wide ini_Md co_Md_wide) rfl rfl rfl (by decide +kernel) ⟨Nat.le_of_ble_eq_true rfl, Nat.le_of_ble_eq_true rfl⟩) ⟨cp_blind, cp_pre hcx hS hPc⟩ rfl rfl hl.1 rfl (lv_room (Nat.le_of_ble_eq_true rfl)) d_Md_grow_21 ⟨Nat.le_of_ble_eq_true rfl, Nat.le_of_ble_eq_true rfl⟩) hS hP (fun H locs hP hS => ?_)
    refine lv_ladd hx hb d_Md_grow_24 ?_
    refine lv_aload_n hx hb d_Md_grow_25 rfl (lv_at hl 0 rfl) ?_
    refine va_get (D := G.1) (ci := 2) (v := .ref xli) (C := R_Md) (T := T_Md) (N := 37) hx hb hts in_Md hown hK hP 0 rfl rfl 7 (by decide) (hts _ fl_Md_20) (fun _ h9 => h9) rfl d_Md_grow_26 ?_
    refine lv_iload_n hx hb d_Md_grow_29 rfl (lv_at hl 1 rfl) ?_
    obtain ⟨h_3, hw⟩ := hw
    refine va_iald hx hb hK hP 2 0 rfl rfl h_3 d_Md_grow_30 ?_
    refine lv_i2l (v := (gli k.toNatClampNeg).toInt64) hx hb d_Md_grow_31 rfl ?_
    refine W.lcmp hx hb d_Md_grow_32 ?_
    refine lv_if_gt (tgt := 49) hx hb d_Md_grow_33 (by decide) (fun c_4 => ?_) (fun c_4 => ?_)
    · replace hw := hw.1 c_4
      refine lv_iconst (v := (-1)) hx hb d_Md_grow_49 (by decide) ?_
      exact W.iret (v := (-1)) hx hb hr (fun t ht hW => ⟨⟨(-1), (0, vpl, gpg), rfl, hw, by have h9 := hP; rw [← ht] at h9; exact h9⟩, hS.F ht⟩) hS.2.2 d_Md_grow_50
    · replace hw := hw.2 c_4
      refine lv_iload_n hx hb d_Md_grow_36 rfl (lv_at hl 2 rfl) ?_
      have hPc := hP.sub (ws' := []) [] rfl
      refine pu_l (va_runS (As := [.int ng]) (rest := []) ⟨hx, hb, hml, hown, hts⟩ (c_Md_wide l G ng) (va_cwS 1 hts (gi_S ml_Md_123 sm_Md_wide ini_Md co_Md_wide) rfl rfl rfl (by decide +kernel) ⟨Nat.le_of_ble_eq_true rfl, Nat.le_of_ble_eq_true rfl⟩) ⟨cp_blind, cp_pre hcx hS hPc⟩ rfl rfl hl.1 rfl (lv_room (Nat.le_of_ble_eq_true rfl)) d_Md_grow_37 ⟨Nat.le_of_ble_eq_true rfl, Nat.le_of_ble_eq_true rfl⟩) hS hP (fun H locs hP hS => ?_)
      refine lv_aload_n hx hb d_Md_grow_40 rfl (lv_at hl 0 rfl) ?_
      refine va_get (D := G.1) (ci := 2) (v := .int vpl) (C := R_Md) (T := T_Md) (N := 37) hx hb hts in_Md hown hK hP 0 rfl rfl 4 (by decide) (hts _ fl_Md_9) (fun _ h9 => h9) rfl d_Md_grow_41 ?_
      refine lv_i2l (v := vpl.toInt64) hx hb d_Md_grow_44 rfl ?_
      refine W.lcmp hx hb d_Md_grow_45 ?_
      refine lv_if_le (tgt := 51) hx hb d_Md_grow_46 (by decide) (fun c_5 => ?_) (fun c_5 => ?_)
      · replace hw := hw.1 c_5
        refine lv_aload_n hx hb d_Md_grow_51 rfl (lv_at hl 0 rfl) ?_
        refine va_get (D := G.1) (ci := 2) (v := .ref xpg) (C := R_Md) (T := T_Md) (N := 37) hx hb hts in_Md hown hK hP 0 rfl rfl 6 (by decide) (hts _ fl_Md_16) (fun _ h9 => h9) rfl d_Md_grow_52 ?_
        refine lv_iload_n hx hb d_Md_grow_55 rfl (lv_at hl 1 rfl) ?_
        obtain ⟨h_6, hw⟩ := hw
        refine va_iald hx hb hK hP 1 0 rfl rfl h_6 d_Md_grow_56 ?_
        refine lv_topi (fun x_7 ex_7 => ?_)
        replace hw := hw x_7 ex_7
        refine lv_istore_n (lv' := [(3, .int x_7), (0, .ref h), (1, .int k), (2, .int ng)]) hx hb d_Md_grow_57 rfl hl (by decide) rfl (fun ls hl => ?_)
        refine lv_aload_n hx hb d_Md_grow_58 rfl (lv_at hl 1 rfl) ?_
        refine va_get (D := G.1) (ci := 2) (v := .ref xpg) (C := R_Md) (T := T_Md) (N := 37) hx hb hts in_Md hown hK hP 0 rfl rfl 6 (by decide) (hts _ fl_Md_16) (fun _ h9 => h9) rfl d_Md_grow_59 ?_
        refine lv_iload_n hx hb d_Md_grow_62 rfl (lv_at hl 2 rfl) ?_
        refine lv_dup2_11 hx hb d_Md_grow_63 rfl rfl ?_
        obtain ⟨h_8, hw⟩ := hw
        refine va_iald hx hb hK hP 1 0 rfl rfl h_8 d_Md_grow_64 ?_
        refine lv_iload_n hx hb d_Md_grow_65 rfl (lv_at hl 3 rfl) ?_
        refine lv_iadd hx hb d_Md_grow_66 ?_
        obtain ⟨h_9, hw⟩ := hw
        obtain ⟨a_10, ea_10⟩ : ∃ z, z = upd gpg k.toNatClampNeg ((gpg k.toNatClampNeg) + ng) := ⟨_, rfl⟩
        replace hw := hw a_10 ea_10
        refine va_iast hx hb hK hP hD hS 1 0 rfl rfl h_9 d_Md_grow_67 (fun H locs hP hD hS => ?_)
        rw [← ea_10] at hP hD
        have hP : va_P G.1 vwC [(h, .inr (2, [.int 0, .int vtp, .int vme, .int vta, .int vpl, .int vel, .ref xpg, .ref xli, .ref xty, .ref xen, .ref xtl, .int vsg, .int vus, .int vrw, .int vur, .ref xst, .ref xmn, .ref xdr, .ref xhe, .ref xrs, .ref xrm, .ref xrd, .ref xhr, .int vwr, .int vch, .ref xki, .ref xin, .ref xpl, .ref xle, .ref xso, .ref xva, .ref xck, .ref xci, .ref xcp, .ref xcl, .ref xcs, .ref xcv])), (xpg, .inl (G.2.1 0, 6, .inl a_10)), (xli, .inl (G.2.1 0, 6, .inl gli))] H := hP
        have hD : va_D A [(h, .inr (2, [.int 0, .int vtp, .int vme, .int vta, .int vpl, .int vel, .ref xpg, .ref xli, .ref xty, .ref xen, .ref xtl, .int vsg, .int vus, .int vrw, .int vur, .ref xst, .ref xmn, .ref xdr, .ref xhe, .ref xrs, .ref xrm, .ref xrd, .ref xhr, .int vwr, .int vch, .ref xki, .ref xin, .ref xpl, .ref xle, .ref xso, .ref xva, .ref xck, .ref xci, .ref xcp, .ref xcl, .ref xcs, .ref xcv])), (xpg, .inl (G.2.1 0, 6, .inl a_10)), (xli, .inl (G.2.1 0, 6, .inl gli))] := hD
        refine lv_aload_n hx hb d_Md_grow_68 rfl (lv_at hl 1 rfl) ?_
        refine lv_dup hx hb d_Md_grow_69 rfl ?_
        refine va_get (D := G.1) (ci := 2) (v := .int vpl) (C := R_Md) (T := T_Md) (N := 37) hx hb hts in_Md hown hK hP 0 rfl rfl 4 (by decide) (hts _ fl_Md_9) (fun _ h9 => h9) rfl d_Md_grow_70 ?_
        refine lv_iload_n hx hb d_Md_grow_73 rfl (lv_at hl 3 rfl) ?_
        refine lv_isub hx hb d_Md_grow_74 ?_
        refine lv_topi (fun x_11 ex_11 => ?_)
        replace hw := hw x_11 ex_11
        refine va_put (D := G.1) (ci := 2) (v := .int x_11) (ty := (.int)) (C := R_Md) (T := T_Md) (N := 37) hx hb hts in_Md ty_Md tk_Md nm_Md hown hK hP hD hS 0 rfl rfl 4 (by decide) (hts _ fl_Md_9) (fun _ h9 => h9) rfl (by decide +kernel) rfl rfl (Nat.le_of_ble_eq_true rfl) d_Md_grow_75 (fun H locs hP hD hS => ?_)
        have hP : va_P G.1 vwC [(h, .inr (2, [.int 0, .int vtp, .int vme, .int vta, .int x_11, .int vel, .ref xpg, .ref xli, .ref xty, .ref xen, .ref xtl, .int vsg, .int vus, .int vrw, .int vur, .ref xst, .ref xmn, .ref xdr, .ref xhe, .ref xrs, .ref xrm, .ref xrd, .ref xhr, .int vwr, .int vch, .ref xki, .ref xin, .ref xpl, .ref xle, .ref xso, .ref xva, .ref xck, .ref xci, .ref xcp, .ref xcl, .ref xcs, .ref xcv])), (xpg, .inl (G.2.1 0, 6, .inl a_10)), (xli, .inl (G.2.1 0, 6, .inl gli))] H := hP
        have hD : va_D A [(h, .inr (2, [.int 0, .int vtp, .int vme, .int vta, .int x_11, .int vel, .ref xpg, .ref xli, .ref xty, .ref xen, .ref xtl, .int vsg, .int vus, .int vrw, .int vur, .ref xst, .ref xmn, .ref xdr, .ref xhe, .ref xrs, .ref xrm, .ref xrd, .ref xhr, .int vwr, .int vch, .ref xki, .ref xin, .ref xpl, .ref xle, .ref xso, .ref xva, .ref xck, .ref xci, .ref xcp, .ref xcl, .ref xcs, .ref xcv])), (xpg, .inl (G.2.1 0, 6, .inl a_10)), (xli, .inl (G.2.1 0, 6, .inl gli))] := hD
        refine lv_iload_n hx hb d_Md_grow_78 rfl (lv_at hl 0 rfl) ?_
        exact W.iret (v := x_7) hx hb hr (fun t ht hW => ⟨⟨x_7, (0, x_11, a_10), rfl, hw, by have h9 := hP; rw [← ht] at h9; exact h9⟩, hS.F ht⟩) hS.2.2 d_Md_grow_79
      · replace hw := hw.2 c_5
        refine lv_iconst (v := (-1)) hx hb d_Md_grow_49 (by decide) ?_
        exact W.iret (v := (-1)) hx hb hr (fun t ht hW => ⟨⟨(-1), (0, vpl, gpg), rfl, hw, by have h9 := hP; rw [← ht] at h9; exact h9⟩, hS.F ht⟩) hS.2.2 d_Md_grow_50
def wp_Md_data_115 (post : Int32 → (Int32 × Int32 × Int32 × (Nat → Int32) × (Nat → Int32) × (Nat → Int32)) → Prop) (nb : Int64) (nn : Int32) (vth : Int32) (vtp : Int32) (vme : Int32) (vta : Int32) (vpl : Int32) (vel : Int32) (vsg : Int32) (vus : Int32) (vrw : Int32) (vur : Int32) (vwr : Int32) (vch : Int32) (gst : Nat → Int32) (gmn : Nat → Int32) (gdr : Nat → Int32) : Nat → Int32 → (Nat → Int32) → Prop
  | 0 => fun _ _ => False
  | n9 + 1 => fun x6 ghe => ((nn ≤ x6 → (∀ x_102 : Int32, x_102 = vus + nn → ((vp_in (vsg - 1) 24) ∧ ((vp_in (vsg - 1) 24) ∧ ∀ a_105 : Nat → Int32, a_105 = upd gmn (vsg - 1).toNatClampNeg ((gmn (vsg - 1).toNatClampNeg) + nn) → (post (vsg - 1) (vth, vsg, x_102, gst, a_105, ghe)))))) ∧ (¬ nn ≤ x6 → ((vp_in (vus + x6) 600) ∧ ∀ a_107 : Nat → Int32, a_107 = upd ghe (vus + x6).toNatClampNeg (((nb >>> ((8 * x6).toInt64 &&& 63)) &&& 255).toInt32) → (∀ x_108 : Int32, x_108 = x6 + 1 → (wp_Md_data_115 post nb nn vth vtp vme vta vpl vel vsg vus vrw vur vwr vch gst gmn gdr n9 x_108 a_107)))))
set_option maxHeartbeats 4000000 in
set_option maxRecDepth 100000 in
theorem l_Md_data_115 {p : Program} {l : Launch} {e : Env} {s : State} {m : MethodId} {args : Array Value} {below : List Frame} {meth : Method} {c : Code} (G : cxT) (h : Nat) (xpg : Nat) (xli : Nat) (xty : Nat) (xen : Nat) (xtl : Nat) (xst : Nat) (xmn : Nat) (xdr : Nat) (xhe : Nat) (xrs : Nat) (xrm : Nat) (xrd : Nat) (xhr : Nat) (xki : Nat) (xin : Nat) (xpl : Nat) (xle : Nat) (xso : Nat) (xva : Nat) (xck : Nat) (xci : Nat) (xcp : Nat) (xcl : Nat) (xcs : Nat) (xcv : Nat) (A : Nat → Prop) (post : Int32 → (Int32 × Int32 × Int32 × (Nat → Int32) × (Nat → Int32) × (Nat → Int32)) → Prop) (nb : Int64) (nn : Int32) (vth : Int32) (vtp : Int32) (vme : Int32) (vta : Int32) (vpl : Int32) (vel : Int32) (vsg : Int32) (vus : Int32) (vrw : Int32) (vur : Int32) (vwr : Int32) (vch : Int32) (gst : Nat → Int32) (gmn : Nat → Int32) (gdr : Nat → Int32) (hx : p.tables.exec = Jvm.exec) (hb : c.code = b_Md_data) (hr : meth.sig.returnType = (some .int)) (hml : c.maxLocals = 7) (hown : s.vm.findClass R_Md = some m.cls) (hlocks : meth.locks = false) (hcx : cx G A s) (hA : ∀ q : Nat, s.heap.size ≤ q → A q) :
    ∀ (n9 : Nat) (x6 : Int32) (ghe : Nat → Int32), wp_Md_data_115 post nb nn vth vtp vme vta vpl vel vsg vus vrw vur vwr vch gst gmn gdr n9 x6 ghe → ∀ (H : Heap) (locs : List Loc), va_P G.1 vwC [(h, .inr (2, [.int vth, .int vtp, .int vme, .int vta, .int vpl, .int vel, .ref xpg, .ref xli, .ref xty, .ref xen, .ref xtl, .int vsg, .int vus, .int vrw, .int vur, .ref xst, .ref xmn, .ref xdr, .ref xhe, .ref xrs, .ref xrm, .ref xrd, .ref xhr, .int vwr, .int vch, .ref xki, .ref xin, .ref xpl, .ref xle, .ref xso, .ref xva, .ref xck, .ref xci, .ref xcp, .ref xcl, .ref xcs, .ref xcv])), (xst, .inl (G.2.1 0, 24, .inl gst)), (xmn, .inl (G.2.1 0, 24, .inl gmn)), (xdr, .inl (G.2.1 2, 24, .inl gdr)), (xhe, .inl (G.2.1 0, 600, .inl ghe))] H → va_D A [(h, .inr (2, [.int vth, .int vtp, .int vme, .int vta, .int vpl, .int vel, .ref xpg, .ref xli, .ref xty, .ref xen, .ref xtl, .int vsg, .int vus, .int vrw, .int vur, .ref xst, .ref xmn, .ref xdr, .ref xhe, .ref xrs, .ref xrm, .ref xrd, .ref xhr, .int vwr, .int vch, .ref xki, .ref xin, .ref xpl, .ref xle, .ref xso, .ref xva, .ref xck, .ref xci, .ref xcp, .ref xcl, .ref xcs, .ref xcv])), (xst, .inl (G.2.1 0, 24, .inl gst)), (xmn, .inl (G.2.1 0, 24, .inl gmn)), (xdr, .inl (G.2.1 2, 24, .inl gdr)), (xhe, .inl (G.2.1 0, 600, .inl ghe))] → va_S A s.heap H locs → ∀ (ls : Array Slot), lv_has ls 7 [(0, .ref h), (1, .long nb), (3, .int nn), (6, .int x6)] → W p l e (headSpec [.code y_Md_data b_Md_data 7 (some .int)] ({ frames := 4, cells := 0, slots := 0, locals := 140 } : Room)).room s m args below meth c H locs 0 0 (MQ below (va_Qi post (fun u t => va_P G.1 vwC [(h, .inr (2, [.int u.1, .int vtp, .int vme, .int vta, .int vpl, .int vel, .ref xpg, .ref xli, .ref xty, .ref xen, .ref xtl, .int u.2.1, .int u.2.2.1, .int vrw, .int vur, .ref xst, .ref xmn, .ref xdr, .ref xhe, .ref xrs, .ref xrm, .ref xrd, .ref xhr, .int vwr, .int vch, .ref xki, .ref xin, .ref xpl, .ref xle, .ref xso, .ref xva, .ref xck, .ref xci, .ref xcp, .ref xcl, .ref xcs, .ref xcv])), (xst, .inl (G.2.1 0, 24, .inl u.2.2.2.1)), (xmn, .inl (G.2.1 0, 24, .inl u.2.2.2.2.1)), (xdr, .inl (G.2.1 2, 24, .inl gdr)), (xhe, .inl (G.2.1 0, 600, .inl u.2.2.2.2.2))] t.heap) A) args s 0 0 A) (F0 m 115 ls []) := by
  have hts := hcx.now.1 args
  have hK := hcx.now.2.1
  intro n9
  induction n9 with
  | zero =>
    intro x6 ghe hw
    exact hw.elim
  | succ n9 ih =>
    intro x6 ghe hw H locs hP hD hS ls hl
    unfold wp_Md_data_115 at hw
    refine lv_iload hx hb d_Md_data_115 (lv_at hl 3 rfl) ?_
    refine lv_iload_n hx hb d_Md_data_117 rfl (lv_at hl 2 rfl) ?_
    refine lv_icmp_ge (tgt := 151) hx hb d_Md_data_118 (by decide) (fun c_101 => ?_) (fun c_101 => ?_)
    · replace hw := hw.1 c_101
      refine lv_aload_n hx hb d_Md_data_151 rfl (lv_at hl 0 rfl) ?_
      refine lv_dup hx hb d_Md_data_152 rfl ?_
      refine va_get (D := G.1) (ci := 2) (v := .int vus) (C := R_Md) (T := T_Md) (N := 37) hx hb hts in_Md hown hK hP 0 rfl rfl 12 (by decide) (hts _ fl_Md_160) (fun _ h9 => h9) rfl d_Md_data_153 ?_
      refine lv_iload_n hx hb d_Md_data_156 rfl (lv_at hl 2 rfl) ?_
      refine lv_iadd hx hb d_Md_data_157 ?_
      refine lv_topi (fun x_102 ex_102 => ?_)
      replace hw := hw x_102 ex_102
      refine va_put (D := G.1) (ci := 2) (v := .int x_102) (ty := (.int)) (C := R_Md) (T := T_Md) (N := 37) hx hb hts in_Md ty_Md tk_Md nm_Md hown hK hP hD hS 0 rfl rfl 12 (by decide) (hts _ fl_Md_160) (fun _ h9 => h9) rfl (by decide +kernel) rfl rfl (Nat.le_of_ble_eq_true rfl) d_Md_data_158 (fun H locs hP hD hS => ?_)
      have hP : va_P G.1 vwC [(h, .inr (2, [.int vth, .int vtp, .int vme, .int vta, .int vpl, .int vel, .ref xpg, .ref xli, .ref xty, .ref xen, .ref xtl, .int vsg, .int x_102, .int vrw, .int vur, .ref xst, .ref xmn, .ref xdr, .ref xhe, .ref xrs, .ref xrm, .ref xrd, .ref xhr, .int vwr, .int vch, .ref xki, .ref xin, .ref xpl, .ref xle, .ref xso, .ref xva, .ref xck, .ref xci, .ref xcp, .ref xcl, .ref xcs, .ref xcv])), (xst, .inl (G.2.1 0, 24, .inl gst)), (xmn, .inl (G.2.1 0, 24, .inl gmn)), (xdr, .inl (G.2.1 2, 24, .inl gdr)), (xhe, .inl (G.2.1 0, 600, .inl ghe))] H := hP
      have hD : va_D A [(h, .inr (2, [.int vth, .int vtp, .int vme, .int vta, .int vpl, .int vel, .ref xpg, .ref xli, .ref xty, .ref xen, .ref xtl, .int vsg, .int x_102, .int vrw, .int vur, .ref xst, .ref xmn, .ref xdr, .ref xhe, .ref xrs, .ref xrm, .ref xrd, .ref xhr, .int vwr, .int vch, .ref xki, .ref xin, .ref xpl, .ref xle, .ref xso, .ref xva, .ref xck, .ref xci, .ref xcp, .ref xcl, .ref xcs, .ref xcv])), (xst, .inl (G.2.1 0, 24, .inl gst)), (xmn, .inl (G.2.1 0, 24, .inl gmn)), (xdr, .inl (G.2.1 2, 24, .inl gdr)), (xhe, .inl (G.2.1 0, 600, .inl ghe))] := hD
      refine lv_aload_n hx hb d_Md_data_161 rfl (lv_at hl 0 rfl) ?_
      refine va_get (D := G.1) (ci := 2) (v := .ref xmn) (C := R_Md) (T := T_Md) (N := 37) hx hb hts in_Md hown hK hP 0 rfl rfl 16 (by decide) (hts _ fl_Md_35) (fun _ h9 => h9) rfl d_Md_data_162 ?_
      refine lv_aload_n hx hb d_Md_data_165 rfl (lv_at hl 0 rfl) ?_
      refine va_get (D := G.1) (ci := 2) (v := .int vsg) (C := R_Md) (T := T_Md) (N := 37) hx hb hts in_Md hown hK hP 0 rfl rfl 11 (by decide) (hts _ fl_Md_157) (fun _ h9 => h9) rfl d_Md_data_166 ?_
      refine lv_iconst (v := 1) hx hb d_Md_data_169 (by decide) ?_
      refine lv_isub hx hb d_Md_data_170 ?_
      refine lv_dup2_11 hx hb d_Md_data_171 rfl rfl ?_
      obtain ⟨h_103, hw⟩ := hw
      refine va_iald hx hb hK hP 2 0 rfl rfl h_103 d_Md_data_172 ?_
      refine lv_iload_n hx hb d_Md_data_173 rfl (lv_at hl 2 rfl) ?_
      refine lv_iadd hx hb d_Md_data_174 ?_
      obtain ⟨h_104, hw⟩ := hw
      obtain ⟨a_105, ea_105⟩ : ∃ z, z = upd gmn (vsg - 1).toNatClampNeg ((gmn (vsg - 1).toNatClampNeg) + nn) := ⟨_, rfl⟩
      replace hw := hw a_105 ea_105
      refine va_iast hx hb hK hP hD hS 2 0 rfl rfl h_104 d_Md_data_175 (fun H locs hP hD hS => ?_)
      rw [← ea_105] at hP hD
      have hP : va_P G.1 vwC [(h, .inr (2, [.int vth, .int vtp, .int vme, .int vta, .int vpl, .int vel, .ref xpg, .ref xli, .ref xty, .ref xen, .ref xtl, .int vsg, .int x_102, .int vrw, .int vur, .ref xst, .ref xmn, .ref xdr, .ref xhe, .ref xrs, .ref xrm, .ref xrd, .ref xhr, .int vwr, .int vch, .ref xki, .ref xin, .ref xpl, .ref xle, .ref xso, .ref xva, .ref xck, .ref xci, .ref xcp, .ref xcl, .ref xcs, .ref xcv])), (xst, .inl (G.2.1 0, 24, .inl gst)), (xmn, .inl (G.2.1 0, 24, .inl a_105)), (xdr, .inl (G.2.1 2, 24, .inl gdr)), (xhe, .inl (G.2.1 0, 600, .inl ghe))] H := hP
      have hD : va_D A [(h, .inr (2, [.int vth, .int vtp, .int vme, .int vta, .int vpl, .int vel, .ref xpg, .ref xli, .ref xty, .ref xen, .ref xtl, .int vsg, .int x_102, .int vrw, .int vur, .ref xst, .ref xmn, .ref xdr, .ref xhe, .ref xrs, .ref xrm, .ref xrd, .ref xhr, .int vwr, .int vch, .ref xki, .ref xin, .ref xpl, .ref xle, .ref xso, .ref xva, .ref xck, .ref xci, .ref xcp, .ref xcl, .ref xcs, .ref xcv])), (xst, .inl (G.2.1 0, 24, .inl gst)), (xmn, .inl (G.2.1 0, 24, .inl a_105)), (xdr, .inl (G.2.1 2, 24, .inl gdr)), (xhe, .inl (G.2.1 0, 600, .inl ghe))] := hD
      refine lv_aload_n hx hb d_Md_data_176 rfl (lv_at hl 0 rfl) ?_
      refine va_get (D := G.1) (ci := 2) (v := .int vsg) (C := R_Md) (T := T_Md) (N := 37) hx hb hts in_Md hown hK hP 0 rfl rfl 11 (by decide) (hts _ fl_Md_157) (fun _ h9 => h9) rfl d_Md_data_177 ?_
      refine lv_iconst (v := 1) hx hb d_Md_data_180 (by decide) ?_
      refine lv_isub hx hb d_Md_data_181 ?_
      exact W.iret (v := vsg - 1) hx hb hr (fun t ht hW => ⟨⟨vsg - 1, (vth, vsg, x_102, gst, a_105, ghe), rfl, hw, by have h9 := hP; rw [← ht] at h9; exact h9⟩, hS.F ht⟩) hS.2.2 d_Md_data_182
    · replace hw := hw.2 c_101
      refine lv_aload_n hx hb d_Md_data_121 rfl (lv_at hl 0 rfl) ?_
      refine va_get (D := G.1) (ci := 2) (v := .ref xhe) (C := R_Md) (T := T_Md) (N := 37) hx hb hts in_Md hown hK hP 0 rfl rfl 18 (by decide) (hts _ fl_Md_42) (fun _ h9 => h9) rfl d_Md_data_122 ?_
      refine lv_aload_n hx hb d_Md_data_125 rfl (lv_at hl 0 rfl) ?_
      refine va_get (D := G.1) (ci := 2) (v := .int vus) (C := R_Md) (T := T_Md) (N := 37) hx hb hts in_Md hown hK hP 0 rfl rfl 12 (by decide) (hts _ fl_Md_160) (fun _ h9 => h9) rfl d_Md_data_126 ?_
      refine lv_iload hx hb d_Md_data_129 (lv_at hl 3 rfl) ?_
      refine lv_iadd hx hb d_Md_data_131 ?_
      refine lv_lload_n hx hb d_Md_data_132 rfl (lv_at hl 1 rfl) ?_
      refine lv_bipush (v := 8) hx hb d_Md_data_133 (by decide) ?_
      refine lv_iload hx hb d_Md_data_135 (lv_at hl 3 rfl) ?_
      refine lv_imul hx hb d_Md_data_137 ?_
      refine lv_lshr (v := nb >>> ((8 * x6).toInt64 &&& 63)) hx hb d_Md_data_138 rfl ?_
      refine lv_ldc2 (v := 255) hx hb hown (hts _ k_Md_116) d_Md_data_139 ?_
      refine lv_land hx hb d_Md_data_142 ?_
      refine lv_l2i (v := ((nb >>> ((8 * x6).toInt64 &&& 63)) &&& 255).toInt32) hx hb d_Md_data_143 rfl ?_
      obtain ⟨h_106, hw⟩ := hw
      obtain ⟨a_107, ea_107⟩ : ∃ z, z = upd ghe (vus + x6).toNatClampNeg (((nb >>> ((8 * x6).toInt64 &&& 63)) &&& 255).toInt32) := ⟨_, rfl⟩
      replace hw := hw a_107 ea_107
      refine va_iast hx hb hK hP hD hS 4 0 rfl rfl h_106 d_Md_data_144 (fun H locs hP hD hS => ?_)
      rw [← ea_107] at hP hD
      have hP : va_P G.1 vwC [(h, .inr (2, [.int vth, .int vtp, .int vme, .int vta, .int vpl, .int vel, .ref xpg, .ref xli, .ref xty, .ref xen, .ref xtl, .int vsg, .int vus, .int vrw, .int vur, .ref xst, .ref xmn, .ref xdr, .ref xhe, .ref xrs, .ref xrm, .ref xrd, .ref xhr, .int vwr, .int vch, .ref xki, .ref xin, .ref xpl, .ref xle, .ref xso, .ref xva, .ref xck, .ref xci, .ref xcp, .ref xcl, .ref xcs, .ref xcv])), (xst, .inl (G.2.1 0, 24, .inl gst)), (xmn, .inl (G.2.1 0, 24, .inl gmn)), (xdr, .inl (G.2.1 2, 24, .inl gdr)), (xhe, .inl (G.2.1 0, 600, .inl a_107))] H := hP
      have hD : va_D A [(h, .inr (2, [.int vth, .int vtp, .int vme, .int vta, .int vpl, .int vel, .ref xpg, .ref xli, .ref xty, .ref xen, .ref xtl, .int vsg, .int vus, .int vrw, .int vur, .ref xst, .ref xmn, .ref xdr, .ref xhe, .ref xrs, .ref xrm, .ref xrd, .ref xhr, .int vwr, .int vch, .ref xki, .ref xin, .ref xpl, .ref xle, .ref xso, .ref xva, .ref xck, .ref xci, .ref xcp, .ref xcl, .ref xcs, .ref xcv])), (xst, .inl (G.2.1 0, 24, .inl gst)), (xmn, .inl (G.2.1 0, 24, .inl gmn)), (xdr, .inl (G.2.1 2, 24, .inl gdr)), (xhe, .inl (G.2.1 0, 600, .inl a_107))] := hD
      obtain ⟨x_108, ex_108⟩ : ∃ y : Int32, y = x6 + 1 := ⟨_, rfl⟩
      replace hw := hw x_108 ex_108
      refine lv_iinc (v := x_108) (lv' := [(6, .int x_108), (0, .ref h), (1, .long nb), (3, .int nn)]) hx hb d_Md_data_145 hl (k := 3) rfl (by rw [ex_108]; rfl) (by decide) rfl (fun ls hl => ?_)
      refine lv_goto (tgt := 115) hx hb d_Md_data_148 (by decide) ?_
      exact ih x_108 a_107 hw _ _ hP hD hS ls (lv_sub hl [1, 2, 3, 0] rfl)
def wp_Md_data (post : Int32 → (Int32 × Int32 × Int32 × (Nat → Int32) × (Nat → Int32) × (Nat → Int32)) → Prop) (vth : Int32) (vtp : Int32) (vme : Int32) (vta : Int32) (vpl : Int32) (vel : Int32) (vsg : Int32) (vus : Int32) (vrw : Int32) (vur : Int32) (vwr : Int32) (vch : Int32) (gst : Nat → Int32) (gmn : Nat → Int32) (gdr : Nat → Int32) (ghe : Nat → Int32) (nb : Int64) (nn : Int32) (mo : Int32) : Prop := ((mo = 0 → (((24 ≤ vsg → (((nn < 0 → (post (-1) (0, vsg, vus, gst, gmn, ghe))) ∧ (¬ nn < 0 → (((8 < nn → (post (-1) (0, vsg, vus, gst, gmn, ghe))) ∧ (¬ 8 < nn → (post (-1) (0, vsg, vus, gst, gmn, ghe))))))))) ∧ (¬ 24 ≤ vsg → (((nn < 0 → (post (-1) (0, vsg, vus, gst, gmn, ghe))) ∧ (¬ nn < 0 → (((8 < nn → (post (-1) (0, vsg, vus, gst, gmn, ghe))) ∧ (¬ 8 < nn → (((vus + nn ≤ 600 → (((¬ mo = 0 → (∃ n9 : Nat, wp_Md_data_115 post nb nn 0 vtp vme vta vpl vel vsg vus vrw vur vwr vch gst gmn gdr n9 0 ghe)) ∧ (mo = 0 → ((vp_in vsg 24) ∧ ∀ a_12 : Nat → Int32, a_12 = upd gst vsg.toNatClampNeg vus → (∀ x_13 : Int32, x_13 = vsg + 1 → (∃ n9 : Nat, wp_Md_data_115 post nb nn 0 vtp vme vta vpl vel x_13 vus vrw vur vwr vch a_12 gmn gdr n9 0 ghe))))))) ∧ (¬ vus + nn ≤ 600 → (post (-1) (0, vsg, vus, gst, gmn, ghe))))))))))))))) ∧ (¬ mo = 0 → (((vsg ≤ 0 → (((nn < 0 → (post (-1) (0, vsg, vus, gst, gmn, ghe))) ∧ (¬ nn < 0 → (((8 < nn → (post (-1) (0, vsg, vus, gst, gmn, ghe))) ∧ (¬ 8 < nn → (post (-1) (0, vsg, vus, gst, gmn, ghe))))))))) ∧ (¬ vsg ≤ 0 → ((vp_in (vsg - 1) 24) ∧ (((¬ gdr (vsg - 1).toNatClampNeg = 0 → (((nn < 0 → (post (-1) (0, vsg, vus, gst, gmn, ghe))) ∧ (¬ nn < 0 → (((8 < nn → (post (-1) (0, vsg, vus, gst, gmn, ghe))) ∧ (¬ 8 < nn → (post (-1) (0, vsg, vus, gst, gmn, ghe))))))))) ∧ (gdr (vsg - 1).toNatClampNeg = 0 → (((nn < 0 → (post (-1) (0, vsg, vus, gst, gmn, ghe))) ∧ (¬ nn < 0 → (((8 < nn → (post (-1) (0, vsg, vus, gst, gmn, ghe))) ∧ (¬ 8 < nn → (((vus + nn ≤ 600 → (((¬ mo = 0 → (∃ n9 : Nat, wp_Md_data_115 post nb nn 0 vtp vme vta vpl vel vsg vus vrw vur vwr vch gst gmn gdr n9 0 ghe)) ∧ (mo = 0 → ((vp_in vsg 24) ∧ ∀ a_29 : Nat → Int32, a_29 = upd gst vsg.toNatClampNeg vus → (∀ x_30 : Int32, x_30 = vsg + 1 → (∃ n9 : Nat, wp_Md_data_115 post nb nn 0 vtp vme vta vpl vel x_30 vus vrw vur vwr vch a_29 gmn gdr n9 0 ghe))))))) ∧ (¬ vus + nn ≤ 600 → (post (-1) (0, vsg, vus, gst, gmn, ghe))))))))))))))))))))
set_option maxHeartbeats 4000000 in
set_option maxRecDepth 100000 in
theorem t_Md_data (l : Launch) (G : cxT) (h : Nat) (xpg : Nat) (xli : Nat) (xty : Nat) (xen : Nat) (xtl : Nat) (xst : Nat) (xmn : Nat) (xdr : Nat) (xhe : Nat) (xrs : Nat) (xrm : Nat) (xrd : Nat) (xhr : Nat) (xki : Nat) (xin : Nat) (xpl : Nat) (xle : Nat) (xso : Nat) (xva : Nat) (xck : Nat) (xci : Nat) (xcp : Nat) (xcl : Nat) (xcs : Nat) (xcv : Nat) (vth : Int32) (vtp : Int32) (vme : Int32) (vta : Int32) (vpl : Int32) (vel : Int32) (vsg : Int32) (vus : Int32) (vrw : Int32) (vur : Int32) (vwr : Int32) (vch : Int32) (gst : Nat → Int32) (gmn : Nat → Int32) (gdr : Nat → Int32) (ghe : Nat → Int32) (nb : Int64) (nn : Int32) (mo : Int32) (sz : Nat) (post : Int32 → (Int32 × Int32 × Int32 × (Nat → Int32) × (Nat → Int32) × (Nat → Int32)) → Prop) (hw : wp_Md_data post vth vtp vme vta vpl vel vsg vus vrw vur vwr vch gst gmn gdr ghe nb nn mo) : Met l y_Md_data [.code y_Md_data b_Md_data 7 (some .int)] ({ frames := 4, cells := 0, slots := 0, locals := 140 } : Room) (cm G [.ref h, .long nb, .int nn, .int mo] [(h, .inr (2, [.int vth, .int vtp, .int vme, .int vta, .int vpl, .int vel, .ref xpg, .ref xli, .ref xty, .ref xen, .ref xtl, .int vsg, .int vus, .int vrw, .int vur, .ref xst, .ref xmn, .ref xdr, .ref xhe, .ref xrs, .ref xrm, .ref xrd, .ref xhr, .int vwr, .int vch, .ref xki, .ref xin, .ref xpl, .ref xle, .ref xso, .ref xva, .ref xck, .ref xci, .ref xcp, .ref xcl, .ref xcs, .ref xcv])), (xst, .inl (G.2.1 0, 24, .inl gst)), (xmn, .inl (G.2.1 0, 24, .inl gmn)), (xdr, .inl (G.2.1 2, 24, .inl gdr)), (xhe, .inl (G.2.1 0, 600, .inl ghe))] sz) (va_Qi post (fun u t => va_P G.1 vwC [(h, .inr (2, [.int u.1, .int vtp, .int vme, .int vta, .int vpl, .int vel, .ref xpg, .ref xli, .ref xty, .ref xen, .ref xtl, .int u.2.1, .int u.2.2.1, .int vrw, .int vur, .ref xst, .ref xmn, .ref xdr, .ref xhe, .ref xrs, .ref xrm, .ref xrd, .ref xhr, .int vwr, .int vch, .ref xki, .ref xin, .ref xpl, .ref xle, .ref xso, .ref xva, .ref xck, .ref xci, .ref xcp, .ref xcl, .ref xcs, .ref xcv])), (xst, .inl (G.2.1 0, 24, .inl u.2.2.2.1)), (xmn, .inl (G.2.1 0, 24, .inl u.2.2.2.2.1)), (xdr, .inl (G.2.1 2, 24, .inl gdr)), (xhe, .inl (G.2.1 0, 600, .inl u.2.2.2.2.2))] t.heap) (va_A [(h, .inr (2, [.int vth, .int vtp, .int vme, .int vta, .int vpl, .int vel, .ref xpg, .ref xli, .ref xty, .ref xen, .ref xtl, .int vsg, .int vus, .int vrw, .int vur, .ref xst, .ref xmn, .ref xdr, .ref xhe, .ref xrs, .ref xrm, .ref xrd, .ref xhr, .int vwr, .int vch, .ref xki, .ref xin, .ref xpl, .ref xle, .ref xso, .ref xva, .ref xck, .ref xci, .ref xcp, .ref xcl, .ref xcs, .ref xcv])), (xst, .inl (G.2.1 0, 24, .inl gst)), (xmn, .inl (G.2.1 0, 24, .inl gmn)), (xdr, .inl (G.2.1 2, 24, .inl gdr)), (xhe, .inl (G.2.1 0, 600, .inl ghe))] sz)) 0 0 (va_A [(h, .inr (2, [.int vth, .int vtp, .int vme, .int vta, .int vpl, .int vel, .ref xpg, .ref xli, .ref xty, .ref xen, .ref xtl, .int vsg, .int vus, .int vrw, .int vur, .ref xst, .ref xmn, .ref xdr, .ref xhe, .ref xrs, .ref xrm, .ref xrd, .ref xhr, .int vwr, .int vch, .ref xki, .ref xin, .ref xpl, .ref xle, .ref xso, .ref xva, .ref xck, .ref xci, .ref xcp, .ref xcl, .ref xcs, .ref xcv])), (xst, .inl (G.2.1 0, 24, .inl gst)), (xmn, .inl (G.2.1 0, 24, .inl gmn)), (xdr, .inl (G.2.1 2, 24, .inl gdr)), (xhe, .inl (G.2.1 0, 600, .inl ghe))] sz) := by
  refine Met.ofW (cc := b_Md_data) (maxL := 7) (ret := (some .int)) (by decide +kernel) rfl ?_
  intro p e s m args below meth c s₁ B hml hv
  obtain ⟨rfl, hsz, hcx, hP, hD0⟩ := hv
  have hx := B.exec
  have hb := B.bytes
  have hr := B.returns
  have hlocks := B.notSynchronized
  have hown : s.vm.findClass R_Md = some m.cls := findClass_of_methodNamed B.named
  subst hsz
  have hD := hD0.self (sz := s.heap.size)
  generalize hAe : va_A [(h, .inr (2, [.int vth, .int vtp, .int vme, .int vta, .int vpl, .int vel, .ref xpg, .ref xli, .ref xty, .ref xen, .ref xtl, .int vsg, .int vus, .int vrw, .int vur, .ref xst, .ref xmn, .ref xdr, .ref xhe, .ref xrs, .ref xrm, .ref xrd, .ref xhr, .int vwr, .int vch, .ref xki, .ref xin, .ref xpl, .ref xle, .ref xso, .ref xva, .ref xck, .ref xci, .ref xcp, .ref xcl, .ref xcs, .ref xcv])), (xst, .inl (G.2.1 0, 24, .inl gst)), (xmn, .inl (G.2.1 0, 24, .inl gmn)), (xdr, .inl (G.2.1 2, 24, .inl gdr)), (xhe, .inl (G.2.1 0, 600, .inl ghe))] s.heap.size = A at hD hcx ⊢
  have hA : ∀ q : Nat, s.heap.size ≤ q → A q := fun q h => by rw [← hAe]; exact Or.inr h
  have hS : va_S A s.heap s.heap [] := va_S.rf
  have hts := hcx.now.1 [.ref h, .long nb, .int nn, .int mo].toArray
  have hK := hcx.now.2.1
  have hl := lv_entry ([.ref h, .long nb, .int nn, .int mo]) (n := 7) (Nat.le_of_ble_eq_true rfl)
  rw [lg_entry_eq]
  generalize (lg_sl ([.ref h, .long nb, .int nn, .int mo]) ++ List.replicate (7 - (lg_sl ([.ref h, .long nb, .int nn, .int mo])).length) Slot.unset).toArray = ls at hl ⊢
  have hl : lv_has ls 7 [(0, .ref h), (1, .long nb), (3, .int nn), (4, .int mo)] := hl
  unfold wp_Md_data at hw
  refine lv_aload_n hx hb d_Md_data_0 rfl (lv_at hl 0 rfl) ?_
  refine lv_iconst (v := 0) hx hb d_Md_data_1 (by decide) ?_
  refine va_put (D := G.1) (ci := 2) (v := .int 0) (ty := (.int)) (C := R_Md) (T := T_Md) (N := 37) hx hb hts in_Md ty_Md tk_Md nm_Md hown hK hP hD hS 0 rfl rfl 0 (by decide) (hts _ fl_Md_94) (fun _ h9 => h9) rfl (by decide +kernel) rfl rfl (Nat.le_of_ble_eq_true rfl) d_Md_data_2 (fun H locs hP hD hS => ?_)
  have hP : va_P G.1 vwC [(h, .inr (2, [.int 0, .int vtp, .int vme, .int vta, .int vpl, .int vel, .ref xpg, .ref xli, .ref xty, .ref xen, .ref xtl, .int vsg, .int vus, .int vrw, .int vur, .ref xst, .ref xmn, .ref xdr, .ref xhe, .ref xrs, .ref xrm, .ref xrd, .ref xhr, .int vwr, .int vch, .ref xki, .ref xin, .ref xpl, .ref xle, .ref xso, .ref xva, .ref xck, .ref xci, .ref xcp, .ref xcl, .ref xcs, .ref xcv])), (xst, .inl (G.2.1 0, 24, .inl gst)), (xmn, .inl (G.2.1 0, 24, .inl gmn)), (xdr, .inl (G.2.1 2, 24, .inl gdr)), (xhe, .inl (G.2.1 0, 600, .inl ghe))] H := hP
  have hD : va_D A [(h, .inr (2, [.int 0, .int vtp, .int vme, .int vta, .int vpl, .int vel, .ref xpg, .ref xli, .ref xty, .ref xen, .ref xtl, .int vsg, .int vus, .int vrw, .int vur, .ref xst, .ref xmn, .ref xdr, .ref xhe, .ref xrs, .ref xrm, .ref xrd, .ref xhr, .int vwr, .int vch, .ref xki, .ref xin, .ref xpl, .ref xle, .ref xso, .ref xva, .ref xck, .ref xci, .ref xcp, .ref xcl, .ref xcs, .ref xcv])), (xst, .inl (G.2.1 0, 24, .inl gst)), (xmn, .inl (G.2.1 0, 24, .inl gmn)), (xdr, .inl (G.2.1 2, 24, .inl gdr)), (xhe, .inl (G.2.1 0, 600, .inl ghe))] := hD
  refine lv_iload hx hb d_Md_data_5 (lv_at hl 3 rfl) ?_
  refine lv_if_eq (tgt := 39) hx hb d_Md_data_7 (by decide) (fun c_1 => ?_) (fun c_1 => ?_)
  · replace hw := hw.1 c_1
    refine lv_aload_n hx hb d_Md_data_39 rfl (lv_at hl 0 rfl) ?_
    refine va_get (D := G.1) (ci := 2) (v := .int vsg) (C := R_Md) (T := T_Md) (N := 37) hx hb hts in_Md hown hK hP 0 rfl rfl 11 (by decide) (hts _ fl_Md_157) (fun _ h9 => h9) rfl d_Md_data_40 ?_
    refine lv_bipush (v := 24) hx hb d_Md_data_43 (by decide) ?_
    refine lv_icmp_ge (tgt := 52) hx hb d_Md_data_45 (by decide) (fun c_2 => ?_) (fun c_2 => ?_)
    · replace hw := hw.1 c_2
      refine lv_iconst (v := 0) hx hb d_Md_data_52 (by decide) ?_
      refine lv_istore (lv' := [(5, .int 0), (0, .ref h), (1, .long nb), (3, .int nn), (4, .int mo)]) hx hb d_Md_data_53 hl (by decide) rfl (fun ls hl => ?_)
      refine lv_iload_n hx hb d_Md_data_55 rfl (lv_at hl 3 rfl) ?_
      refine lv_if_lt (tgt := 82) hx hb d_Md_data_56 (by decide) (fun c_3 => ?_) (fun c_3 => ?_)
      · replace hw := hw.1 c_3
        refine lv_iconst (v := (-1)) hx hb d_Md_data_82 (by decide) ?_
        exact W.iret (v := (-1)) hx hb hr (fun t ht hW => ⟨⟨(-1), (0, vsg, vus, gst, gmn, ghe), rfl, hw, by have h9 := hP; rw [← ht] at h9; exact h9⟩, hS.F ht⟩) hS.2.2 d_Md_data_83
      · replace hw := hw.2 c_3
        refine lv_iload_n hx hb d_Md_data_59 rfl (lv_at hl 3 rfl) ?_
        refine lv_bipush (v := 8) hx hb d_Md_data_60 (by decide) ?_
        refine lv_icmp_gt (tgt := 82) hx hb d_Md_data_62 (by decide) (fun c_4 => ?_) (fun c_4 => ?_)
        · replace hw := hw.1 c_4
          refine lv_iconst (v := (-1)) hx hb d_Md_data_82 (by decide) ?_
          exact W.iret (v := (-1)) hx hb hr (fun t ht hW => ⟨⟨(-1), (0, vsg, vus, gst, gmn, ghe), rfl, hw, by have h9 := hP; rw [← ht] at h9; exact h9⟩, hS.F ht⟩) hS.2.2 d_Md_data_83
        · replace hw := hw.2 c_4
          refine lv_iload hx hb d_Md_data_65 (lv_at hl 0 rfl) ?_
          refine lv_if_eq (tgt := 82) hx hb d_Md_data_67 (by decide) (fun _ => ?_) (fun c_5 => absurd c_5 (by decide))
          refine lv_iconst (v := (-1)) hx hb d_Md_data_82 (by decide) ?_
          exact W.iret (v := (-1)) hx hb hr (fun t ht hW => ⟨⟨(-1), (0, vsg, vus, gst, gmn, ghe), rfl, hw, by have h9 := hP; rw [← ht] at h9; exact h9⟩, hS.F ht⟩) hS.2.2 d_Md_data_83
    · replace hw := hw.2 c_2
      refine lv_iconst (v := 1) hx hb d_Md_data_48 (by decide) ?_
      refine lv_goto (tgt := 53) hx hb d_Md_data_49 (by decide) ?_
      refine lv_istore (lv' := [(5, .int 1), (0, .ref h), (1, .long nb), (3, .int nn), (4, .int mo)]) hx hb d_Md_data_53 hl (by decide) rfl (fun ls hl => ?_)
      refine lv_iload_n hx hb d_Md_data_55 rfl (lv_at hl 3 rfl) ?_
      refine lv_if_lt (tgt := 82) hx hb d_Md_data_56 (by decide) (fun c_6 => ?_) (fun c_6 => ?_)
      · replace hw := hw.1 c_6
        refine lv_iconst (v := (-1)) hx hb d_Md_data_82 (by decide) ?_
        exact W.iret (v := (-1)) hx hb hr (fun t ht hW => ⟨⟨(-1), (0, vsg, vus, gst, gmn, ghe), rfl, hw, by have h9 := hP; rw [← ht] at h9; exact h9⟩, hS.F ht⟩) hS.2.2 d_Md_data_83
      · replace hw := hw.2 c_6
        refine lv_iload_n hx hb d_Md_data_59 rfl (lv_at hl 3 rfl) ?_
        refine lv_bipush (v := 8) hx hb d_Md_data_60 (by decide) ?_
        refine lv_icmp_gt (tgt := 82) hx hb d_Md_data_62 (by decide) (fun c_7 => ?_) (fun c_7 => ?_)
        · replace hw := hw.1 c_7
          refine lv_iconst (v := (-1)) hx hb d_Md_data_82 (by decide) ?_
          exact W.iret (v := (-1)) hx hb hr (fun t ht hW => ⟨⟨(-1), (0, vsg, vus, gst, gmn, ghe), rfl, hw, by have h9 := hP; rw [← ht] at h9; exact h9⟩, hS.F ht⟩) hS.2.2 d_Md_data_83
        · replace hw := hw.2 c_7
          refine lv_iload hx hb d_Md_data_65 (lv_at hl 0 rfl) ?_
          refine lv_if_eq (tgt := 82) hx hb d_Md_data_67 (by decide) (fun c_8 => absurd c_8 (by decide)) (fun _ => ?_)
          refine lv_aload_n hx hb d_Md_data_70 rfl (lv_at hl 1 rfl) ?_
          refine va_get (D := G.1) (ci := 2) (v := .int vus) (C := R_Md) (T := T_Md) (N := 37) hx hb hts in_Md hown hK hP 0 rfl rfl 12 (by decide) (hts _ fl_Md_160) (fun _ h9 => h9) rfl d_Md_data_71 ?_
          refine lv_iload_n hx hb d_Md_data_74 rfl (lv_at hl 3 rfl) ?_
          refine lv_iadd hx hb d_Md_data_75 ?_
          refine lv_sipush (v := 600) hx hb d_Md_data_76 (by decide) ?_
          refine lv_icmp_le (tgt := 84) hx hb d_Md_data_79 (by decide) (fun c_9 => ?_) (fun c_9 => ?_)
          · replace hw := hw.1 c_9
            refine lv_iload hx hb d_Md_data_84 (lv_at hl 4 rfl) ?_
            refine lv_if_ne (tgt := 112) hx hb d_Md_data_86 (by decide) (fun c_10 => ?_) (fun c_10 => ?_)
            · replace hw := hw.1 c_10
              refine lv_iconst (v := 0) hx hb d_Md_data_112 (by decide) ?_
              refine lv_istore (lv' := [(6, .int 0), (5, .int 1), (0, .ref h), (1, .long nb), (3, .int nn), (4, .int mo)]) hx hb d_Md_data_113 hl (by decide) rfl (fun ls hl => ?_)
              obtain ⟨n9, hw⟩ := hw
              exact l_Md_data_115 G h xpg xli xty xen xtl xst xmn xdr xhe xrs xrm xrd xhr xki xin xpl xle xso xva xck xci xcp xcl xcs xcv A post nb nn 0 vtp vme vta vpl vel vsg vus vrw vur vwr vch gst gmn gdr hx hb hr hml hown hlocks hcx hA n9 0 ghe hw _ _ hP hD hS ls (lv_sub hl [2, 3, 4, 0] rfl)
            · replace hw := hw.2 c_10
              refine lv_aload_n hx hb d_Md_data_89 rfl (lv_at hl 1 rfl) ?_
              refine va_get (D := G.1) (ci := 2) (v := .ref xst) (C := R_Md) (T := T_Md) (N := 37) hx hb hts in_Md hown hK hP 0 rfl rfl 15 (by decide) (hts _ fl_Md_32) (fun _ h9 => h9) rfl d_Md_data_90 ?_
              refine lv_aload_n hx hb d_Md_data_93 rfl (lv_at hl 1 rfl) ?_
              refine va_get (D := G.1) (ci := 2) (v := .int vsg) (C := R_Md) (T := T_Md) (N := 37) hx hb hts in_Md hown hK hP 0 rfl rfl 11 (by decide) (hts _ fl_Md_157) (fun _ h9 => h9) rfl d_Md_data_94 ?_
              refine lv_aload_n hx hb d_Md_data_97 rfl (lv_at hl 1 rfl) ?_
              refine va_get (D := G.1) (ci := 2) (v := .int vus) (C := R_Md) (T := T_Md) (N := 37) hx hb hts in_Md hown hK hP 0 rfl rfl 12 (by decide) (hts _ fl_Md_160) (fun _ h9 => h9) rfl d_Md_data_98 ?_
              obtain ⟨h_11, hw⟩ := hw
              obtain ⟨a_12, ea_12⟩ : ∃ z, z = upd gst vsg.toNatClampNeg vus := ⟨_, rfl⟩
              replace hw := hw a_12 ea_12
              refine va_iast hx hb hK hP hD hS 1 0 rfl rfl h_11 d_Md_data_101 (fun H locs hP hD hS => ?_)
              rw [← ea_12] at hP hD
              have hP : va_P G.1 vwC [(h, .inr (2, [.int 0, .int vtp, .int vme, .int vta, .int vpl, .int vel, .ref xpg, .ref xli, .ref xty, .ref xen, .ref xtl, .int vsg, .int vus, .int vrw, .int vur, .ref xst, .ref xmn, .ref xdr, .ref xhe, .ref xrs, .ref xrm, .ref xrd, .ref xhr, .int vwr, .int vch, .ref xki, .ref xin, .ref xpl, .ref xle, .ref xso, .ref xva, .ref xck, .ref xci, .ref xcp, .ref xcl, .ref xcs, .ref xcv])), (xst, .inl (G.2.1 0, 24, .inl a_12)), (xmn, .inl (G.2.1 0, 24, .inl gmn)), (xdr, .inl (G.2.1 2, 24, .inl gdr)), (xhe, .inl (G.2.1 0, 600, .inl ghe))] H := hP
              have hD : va_D A [(h, .inr (2, [.int 0, .int vtp, .int vme, .int vta, .int vpl, .int vel, .ref xpg, .ref xli, .ref xty, .ref xen, .ref xtl, .int vsg, .int vus, .int vrw, .int vur, .ref xst, .ref xmn, .ref xdr, .ref xhe, .ref xrs, .ref xrm, .ref xrd, .ref xhr, .int vwr, .int vch, .ref xki, .ref xin, .ref xpl, .ref xle, .ref xso, .ref xva, .ref xck, .ref xci, .ref xcp, .ref xcl, .ref xcs, .ref xcv])), (xst, .inl (G.2.1 0, 24, .inl a_12)), (xmn, .inl (G.2.1 0, 24, .inl gmn)), (xdr, .inl (G.2.1 2, 24, .inl gdr)), (xhe, .inl (G.2.1 0, 600, .inl ghe))] := hD
              refine lv_aload_n hx hb d_Md_data_102 rfl (lv_at hl 1 rfl) ?_
              refine lv_dup hx hb d_Md_data_103 rfl ?_
              refine va_get (D := G.1) (ci := 2) (v := .int vsg) (C := R_Md) (T := T_Md) (N := 37) hx hb hts in_Md hown hK hP 0 rfl rfl 11 (by decide) (hts _ fl_Md_157) (fun _ h9 => h9) rfl d_Md_data_104 ?_
              refine lv_iconst (v := 1) hx hb d_Md_data_107 (by decide) ?_
              refine lv_iadd hx hb d_Md_data_108 ?_
              refine lv_topi (fun x_13 ex_13 => ?_)
              replace hw := hw x_13 ex_13
              refine va_put (D := G.1) (ci := 2) (v := .int x_13) (ty := (.int)) (C := R_Md) (T := T_Md) (N := 37) hx hb hts in_Md ty_Md tk_Md nm_Md hown hK hP hD hS 0 rfl rfl 11 (by decide) (hts _ fl_Md_157) (fun _ h9 => h9) rfl (by decide +kernel) rfl rfl (Nat.le_of_ble_eq_true rfl) d_Md_data_109 (fun H locs hP hD hS => ?_)
              have hP : va_P G.1 vwC [(h, .inr (2, [.int 0, .int vtp, .int vme, .int vta, .int vpl, .int vel, .ref xpg, .ref xli, .ref xty, .ref xen, .ref xtl, .int x_13, .int vus, .int vrw, .int vur, .ref xst, .ref xmn, .ref xdr, .ref xhe, .ref xrs, .ref xrm, .ref xrd, .ref xhr, .int vwr, .int vch, .ref xki, .ref xin, .ref xpl, .ref xle, .ref xso, .ref xva, .ref xck, .ref xci, .ref xcp, .ref xcl, .ref xcs, .ref xcv])), (xst, .inl (G.2.1 0, 24, .inl a_12)), (xmn, .inl (G.2.1 0, 24, .inl gmn)), (xdr, .inl (G.2.1 2, 24, .inl gdr)), (xhe, .inl (G.2.1 0, 600, .inl ghe))] H := hP
              have hD : va_D A [(h, .inr (2, [.int 0, .int vtp, .int vme, .int vta, .int vpl, .int vel, .ref xpg, .ref xli, .ref xty, .ref xen, .ref xtl, .int x_13, .int vus, .int vrw, .int vur, .ref xst, .ref xmn, .ref xdr, .ref xhe, .ref xrs, .ref xrm, .ref xrd, .ref xhr, .int vwr, .int vch, .ref xki, .ref xin, .ref xpl, .ref xle, .ref xso, .ref xva, .ref xck, .ref xci, .ref xcp, .ref xcl, .ref xcs, .ref xcv])), (xst, .inl (G.2.1 0, 24, .inl a_12)), (xmn, .inl (G.2.1 0, 24, .inl gmn)), (xdr, .inl (G.2.1 2, 24, .inl gdr)), (xhe, .inl (G.2.1 0, 600, .inl ghe))] := hD
              refine lv_iconst (v := 0) hx hb d_Md_data_112 (by decide) ?_
              refine lv_istore (lv' := [(6, .int 0), (5, .int 1), (0, .ref h), (1, .long nb), (3, .int nn), (4, .int mo)]) hx hb d_Md_data_113 hl (by decide) rfl (fun ls hl => ?_)
              obtain ⟨n9, hw⟩ := hw
              exact l_Md_data_115 G h xpg xli xty xen xtl xst xmn xdr xhe xrs xrm xrd xhr xki xin xpl xle xso xva xck xci xcp xcl xcs xcv A post nb nn 0 vtp vme vta vpl vel x_13 vus vrw vur vwr vch a_12 gmn gdr hx hb hr hml hown hlocks hcx hA n9 0 ghe hw _ _ hP hD hS ls (lv_sub hl [2, 3, 4, 0] rfl)
          · replace hw := hw.2 c_9
            refine lv_iconst (v := (-1)) hx hb d_Md_data_82 (by decide) ?_
            exact W.iret (v := (-1)) hx hb hr (fun t ht hW => ⟨⟨(-1), (0, vsg, vus, gst, gmn, ghe), rfl, hw, by have h9 := hP; rw [← ht] at h9; exact h9⟩, hS.F ht⟩) hS.2.2 d_Md_data_83
  · replace hw := hw.2 c_1
    refine lv_aload_n hx hb d_Md_data_10 rfl (lv_at hl 0 rfl) ?_
    refine va_get (D := G.1) (ci := 2) (v := .int vsg) (C := R_Md) (T := T_Md) (N := 37) hx hb hts in_Md hown hK hP 0 rfl rfl 11 (by decide) (hts _ fl_Md_157) (fun _ h9 => h9) rfl d_Md_data_11 ?_
    refine lv_if_le (tgt := 35) hx hb d_Md_data_14 (by decide) (fun c_14 => ?_) (fun c_14 => ?_)
    · replace hw := hw.1 c_14
      refine lv_iconst (v := 0) hx hb d_Md_data_35 (by decide) ?_
      refine lv_goto (tgt := 53) hx hb d_Md_data_36 (by decide) ?_
      refine lv_istore (lv' := [(5, .int 0), (0, .ref h), (1, .long nb), (3, .int nn), (4, .int mo)]) hx hb d_Md_data_53 hl (by decide) rfl (fun ls hl => ?_)
      refine lv_iload_n hx hb d_Md_data_55 rfl (lv_at hl 3 rfl) ?_
      refine lv_if_lt (tgt := 82) hx hb d_Md_data_56 (by decide) (fun c_15 => ?_) (fun c_15 => ?_)
      · replace hw := hw.1 c_15
        refine lv_iconst (v := (-1)) hx hb d_Md_data_82 (by decide) ?_
        exact W.iret (v := (-1)) hx hb hr (fun t ht hW => ⟨⟨(-1), (0, vsg, vus, gst, gmn, ghe), rfl, hw, by have h9 := hP; rw [← ht] at h9; exact h9⟩, hS.F ht⟩) hS.2.2 d_Md_data_83
      · replace hw := hw.2 c_15
        refine lv_iload_n hx hb d_Md_data_59 rfl (lv_at hl 3 rfl) ?_
        refine lv_bipush (v := 8) hx hb d_Md_data_60 (by decide) ?_
        refine lv_icmp_gt (tgt := 82) hx hb d_Md_data_62 (by decide) (fun c_16 => ?_) (fun c_16 => ?_)
        · replace hw := hw.1 c_16
          refine lv_iconst (v := (-1)) hx hb d_Md_data_82 (by decide) ?_
          exact W.iret (v := (-1)) hx hb hr (fun t ht hW => ⟨⟨(-1), (0, vsg, vus, gst, gmn, ghe), rfl, hw, by have h9 := hP; rw [← ht] at h9; exact h9⟩, hS.F ht⟩) hS.2.2 d_Md_data_83
        · replace hw := hw.2 c_16
          refine lv_iload hx hb d_Md_data_65 (lv_at hl 0 rfl) ?_
          refine lv_if_eq (tgt := 82) hx hb d_Md_data_67 (by decide) (fun _ => ?_) (fun c_17 => absurd c_17 (by decide))
          refine lv_iconst (v := (-1)) hx hb d_Md_data_82 (by decide) ?_
          exact W.iret (v := (-1)) hx hb hr (fun t ht hW => ⟨⟨(-1), (0, vsg, vus, gst, gmn, ghe), rfl, hw, by have h9 := hP; rw [← ht] at h9; exact h9⟩, hS.F ht⟩) hS.2.2 d_Md_data_83
    · replace hw := hw.2 c_14
      refine lv_aload_n hx hb d_Md_data_17 rfl (lv_at hl 0 rfl) ?_
      refine va_get (D := G.1) (ci := 2) (v := .ref xdr) (C := R_Md) (T := T_Md) (N := 37) hx hb hts in_Md hown hK hP 0 rfl rfl 17 (by decide) (hts _ fl_Md_38) (fun _ h9 => h9) rfl d_Md_data_18 ?_
      refine lv_aload_n hx hb d_Md_data_21 rfl (lv_at hl 0 rfl) ?_
      refine va_get (D := G.1) (ci := 2) (v := .int vsg) (C := R_Md) (T := T_Md) (N := 37) hx hb hts in_Md hown hK hP 0 rfl rfl 11 (by decide) (hts _ fl_Md_157) (fun _ h9 => h9) rfl d_Md_data_22 ?_
      refine lv_iconst (v := 1) hx hb d_Md_data_25 (by decide) ?_
      refine lv_isub hx hb d_Md_data_26 ?_
      obtain ⟨h_18, hw⟩ := hw
      refine va_zald hx hb hK hP 3 2 rfl rfl h_18 d_Md_data_27 ?_
      refine lv_if_ne (tgt := 35) hx hb d_Md_data_28 (by decide) (fun c_19 => ?_) (fun c_19 => ?_)
      · replace hw := hw.1 c_19
        refine lv_iconst (v := 0) hx hb d_Md_data_35 (by decide) ?_
        refine lv_goto (tgt := 53) hx hb d_Md_data_36 (by decide) ?_
        refine lv_istore (lv' := [(5, .int 0), (0, .ref h), (1, .long nb), (3, .int nn), (4, .int mo)]) hx hb d_Md_data_53 hl (by decide) rfl (fun ls hl => ?_)
        refine lv_iload_n hx hb d_Md_data_55 rfl (lv_at hl 3 rfl) ?_
        refine lv_if_lt (tgt := 82) hx hb d_Md_data_56 (by decide) (fun c_20 => ?_) (fun c_20 => ?_)
        · replace hw := hw.1 c_20
          refine lv_iconst (v := (-1)) hx hb d_Md_data_82 (by decide) ?_
          exact W.iret (v := (-1)) hx hb hr (fun t ht hW => ⟨⟨(-1), (0, vsg, vus, gst, gmn, ghe), rfl, hw, by have h9 := hP; rw [← ht] at h9; exact h9⟩, hS.F ht⟩) hS.2.2 d_Md_data_83
        · replace hw := hw.2 c_20
          refine lv_iload_n hx hb d_Md_data_59 rfl (lv_at hl 3 rfl) ?_
          refine lv_bipush (v := 8) hx hb d_Md_data_60 (by decide) ?_
          refine lv_icmp_gt (tgt := 82) hx hb d_Md_data_62 (by decide) (fun c_21 => ?_) (fun c_21 => ?_)
          · replace hw := hw.1 c_21
            refine lv_iconst (v := (-1)) hx hb d_Md_data_82 (by decide) ?_
            exact W.iret (v := (-1)) hx hb hr (fun t ht hW => ⟨⟨(-1), (0, vsg, vus, gst, gmn, ghe), rfl, hw, by have h9 := hP; rw [← ht] at h9; exact h9⟩, hS.F ht⟩) hS.2.2 d_Md_data_83
          · replace hw := hw.2 c_21
            refine lv_iload hx hb d_Md_data_65 (lv_at hl 0 rfl) ?_
            refine lv_if_eq (tgt := 82) hx hb d_Md_data_67 (by decide) (fun _ => ?_) (fun c_22 => absurd c_22 (by decide))
            refine lv_iconst (v := (-1)) hx hb d_Md_data_82 (by decide) ?_
            exact W.iret (v := (-1)) hx hb hr (fun t ht hW => ⟨⟨(-1), (0, vsg, vus, gst, gmn, ghe), rfl, hw, by have h9 := hP; rw [← ht] at h9; exact h9⟩, hS.F ht⟩) hS.2.2 d_Md_data_83
      · replace hw := hw.2 c_19
        refine lv_iconst (v := 1) hx hb d_Md_data_31 (by decide) ?_
        refine lv_goto (tgt := 53) hx hb d_Md_data_32 (by decide) ?_
        refine lv_istore (lv' := [(5, .int 1), (0, .ref h), (1, .long nb), (3, .int nn), (4, .int mo)]) hx hb d_Md_data_53 hl (by decide) rfl (fun ls hl => ?_)
        refine lv_iload_n hx hb d_Md_data_55 rfl (lv_at hl 3 rfl) ?_
        refine lv_if_lt (tgt := 82) hx hb d_Md_data_56 (by decide) (fun c_23 => ?_) (fun c_23 => ?_)
        · replace hw := hw.1 c_23
          refine lv_iconst (v := (-1)) hx hb d_Md_data_82 (by decide) ?_
          exact W.iret (v := (-1)) hx hb hr (fun t ht hW => ⟨⟨(-1), (0, vsg, vus, gst, gmn, ghe), rfl, hw, by have h9 := hP; rw [← ht] at h9; exact h9⟩, hS.F ht⟩) hS.2.2 d_Md_data_83
        · replace hw := hw.2 c_23
          refine lv_iload_n hx hb d_Md_data_59 rfl (lv_at hl 3 rfl) ?_
          refine lv_bipush (v := 8) hx hb d_Md_data_60 (by decide) ?_
          refine lv_icmp_gt (tgt := 82) hx hb d_Md_data_62 (by decide) (fun c_24 => ?_) (fun c_24 => ?_)
          · replace hw := hw.1 c_24
            refine lv_iconst (v := (-1)) hx hb d_Md_data_82 (by decide) ?_
            exact W.iret (v := (-1)) hx hb hr (fun t ht hW => ⟨⟨(-1), (0, vsg, vus, gst, gmn, ghe), rfl, hw, by have h9 := hP; rw [← ht] at h9; exact h9⟩, hS.F ht⟩) hS.2.2 d_Md_data_83
          · replace hw := hw.2 c_24
            refine lv_iload hx hb d_Md_data_65 (lv_at hl 0 rfl) ?_
            refine lv_if_eq (tgt := 82) hx hb d_Md_data_67 (by decide) (fun c_25 => absurd c_25 (by decide)) (fun _ => ?_)
            refine lv_aload_n hx hb d_Md_data_70 rfl (lv_at hl 1 rfl) ?_
            refine va_get (D := G.1) (ci := 2) (v := .int vus) (C := R_Md) (T := T_Md) (N := 37) hx hb hts in_Md hown hK hP 0 rfl rfl 12 (by decide) (hts _ fl_Md_160) (fun _ h9 => h9) rfl d_Md_data_71 ?_
            refine lv_iload_n hx hb d_Md_data_74 rfl (lv_at hl 3 rfl) ?_
            refine lv_iadd hx hb d_Md_data_75 ?_
            refine lv_sipush (v := 600) hx hb d_Md_data_76 (by decide) ?_
            refine lv_icmp_le (tgt := 84) hx hb d_Md_data_79 (by decide) (fun c_26 => ?_) (fun c_26 => ?_)
            · replace hw := hw.1 c_26
              refine lv_iload hx hb d_Md_data_84 (lv_at hl 4 rfl) ?_
              refine lv_if_ne (tgt := 112) hx hb d_Md_data_86 (by decide) (fun c_27 => ?_) (fun c_27 => ?_)
              · replace hw := hw.1 c_27
                refine lv_iconst (v := 0) hx hb d_Md_data_112 (by decide) ?_
                refine lv_istore (lv' := [(6, .int 0), (5, .int 1), (0, .ref h), (1, .long nb), (3, .int nn), (4, .int mo)]) hx hb d_Md_data_113 hl (by decide) rfl (fun ls hl => ?_)
                obtain ⟨n9, hw⟩ := hw
                exact l_Md_data_115 G h xpg xli xty xen xtl xst xmn xdr xhe xrs xrm xrd xhr xki xin xpl xle xso xva xck xci xcp xcl xcs xcv A post nb nn 0 vtp vme vta vpl vel vsg vus vrw vur vwr vch gst gmn gdr hx hb hr hml hown hlocks hcx hA n9 0 ghe hw _ _ hP hD hS ls (lv_sub hl [2, 3, 4, 0] rfl)
              · replace hw := hw.2 c_27
                refine lv_aload_n hx hb d_Md_data_89 rfl (lv_at hl 1 rfl) ?_
                refine va_get (D := G.1) (ci := 2) (v := .ref xst) (C := R_Md) (T := T_Md) (N := 37) hx hb hts in_Md hown hK hP 0 rfl rfl 15 (by decide) (hts _ fl_Md_32) (fun _ h9 => h9) rfl d_Md_data_90 ?_
                refine lv_aload_n hx hb d_Md_data_93 rfl (lv_at hl 1 rfl) ?_
                refine va_get (D := G.1) (ci := 2) (v := .int vsg) (C := R_Md) (T := T_Md) (N := 37) hx hb hts in_Md hown hK hP 0 rfl rfl 11 (by decide) (hts _ fl_Md_157) (fun _ h9 => h9) rfl d_Md_data_94 ?_
                refine lv_aload_n hx hb d_Md_data_97 rfl (lv_at hl 1 rfl) ?_
                refine va_get (D := G.1) (ci := 2) (v := .int vus) (C := R_Md) (T := T_Md) (N := 37) hx hb hts in_Md hown hK hP 0 rfl rfl 12 (by decide) (hts _ fl_Md_160) (fun _ h9 => h9) rfl d_Md_data_98 ?_
                obtain ⟨h_28, hw⟩ := hw
                obtain ⟨a_29, ea_29⟩ : ∃ z, z = upd gst vsg.toNatClampNeg vus := ⟨_, rfl⟩
                replace hw := hw a_29 ea_29
                refine va_iast hx hb hK hP hD hS 1 0 rfl rfl h_28 d_Md_data_101 (fun H locs hP hD hS => ?_)
                rw [← ea_29] at hP hD
                have hP : va_P G.1 vwC [(h, .inr (2, [.int 0, .int vtp, .int vme, .int vta, .int vpl, .int vel, .ref xpg, .ref xli, .ref xty, .ref xen, .ref xtl, .int vsg, .int vus, .int vrw, .int vur, .ref xst, .ref xmn, .ref xdr, .ref xhe, .ref xrs, .ref xrm, .ref xrd, .ref xhr, .int vwr, .int vch, .ref xki, .ref xin, .ref xpl, .ref xle, .ref xso, .ref xva, .ref xck, .ref xci, .ref xcp, .ref xcl, .ref xcs, .ref xcv])), (xst, .inl (G.2.1 0, 24, .inl a_29)), (xmn, .inl (G.2.1 0, 24, .inl gmn)), (xdr, .inl (G.2.1 2, 24, .inl gdr)), (xhe, .inl (G.2.1 0, 600, .inl ghe))] H := hP
                have hD : va_D A [(h, .inr (2, [.int 0, .int vtp, .int vme, .int vta, .int vpl, .int vel, .ref xpg, .ref xli, .ref xty, .ref xen, .ref xtl, .int vsg, .int vus, .int vrw, .int vur, .ref xst, .ref xmn, .ref xdr, .ref xhe, .ref xrs, .ref xrm, .ref xrd, .ref xhr, .int vwr, .int vch, .ref xki, .ref xin, .ref xpl, .ref xle, .ref xso, .ref xva, .ref xck, .ref xci, .ref xcp, .ref xcl, .ref xcs, .ref xcv])), (xst, .inl (G.2.1 0, 24, .inl a_29)), (xmn, .inl (G.2.1 0, 24, .inl gmn)), (xdr, .inl (G.2.1 2, 24, .inl gdr)), (xhe, .inl (G.2.1 0, 600, .inl ghe))] := hD
                refine lv_aload_n hx hb d_Md_data_102 rfl (lv_at hl 1 rfl) ?_
                refine lv_dup hx hb d_Md_data_103 rfl ?_
                refine va_get (D := G.1) (ci := 2) (v := .int vsg) (C := R_Md) (T := T_Md) (N := 37) hx hb hts in_Md hown hK hP 0 rfl rfl 11 (by decide) (hts _ fl_Md_157) (fun _ h9 => h9) rfl d_Md_data_104 ?_
                refine lv_iconst (v := 1) hx hb d_Md_data_107 (by decide) ?_
                refine lv_iadd hx hb d_Md_data_108 ?_
                refine lv_topi (fun x_30 ex_30 => ?_)
                replace hw := hw x_30 ex_30
                refine va_put (D := G.1) (ci := 2) (v := .int x_30) (ty := (.int)) (C := R_Md) (T := T_Md) (N := 37) hx hb hts in_Md ty_Md tk_Md nm_Md hown hK hP hD hS 0 rfl rfl 11 (by decide) (hts _ fl_Md_157) (fun _ h9 => h9) rfl (by decide +kernel) rfl rfl (Nat.le_of_ble_eq_true rfl) d_Md_data_109 (fun H locs hP hD hS => ?_)
                have hP : va_P G.1 vwC [(h, .inr (2, [.int 0, .int vtp, .int vme, .int vta, .int vpl, .int vel, .ref xpg, .ref xli, .ref xty, .ref xen, .ref xtl, .int x_30, .int vus, .int vrw, .int vur, .ref xst, .ref xmn, .ref xdr, .ref xhe, .ref xrs, .ref xrm, .ref xrd, .ref xhr, .int vwr, .int vch, .ref xki, .ref xin, .ref xpl, .ref xle, .ref xso, .ref xva, .ref xck, .ref xci, .ref xcp, .ref xcl, .ref xcs, .ref xcv])), (xst, .inl (G.2.1 0, 24, .inl a_29)), (xmn, .inl (G.2.1 0, 24, .inl gmn)), (xdr, .inl (G.2.1 2, 24, .inl gdr)), (xhe, .inl (G.2.1 0, 600, .inl ghe))] H := hP
                have hD : va_D A [(h, .inr (2, [.int 0, .int vtp, .int vme, .int vta, .int vpl, .int vel, .ref xpg, .ref xli, .ref xty, .ref xen, .ref xtl, .int x_30, .int vus, .int vrw, .int vur, .ref xst, .ref xmn, .ref xdr, .ref xhe, .ref xrs, .ref xrm, .ref xrd, .ref xhr, .int vwr, .int vch, .ref xki, .ref xin, .ref xpl, .ref xle, .ref xso, .ref xva, .ref xck, .ref xci, .ref xcp, .ref xcl, .ref xcs, .ref xcv])), (xst, .inl (G.2.1 0, 24, .inl a_29)), (xmn, .inl (G.2.1 0, 24, .inl gmn)), (xdr, .inl (G.2.1 2, 24, .inl gdr)), (xhe, .inl (G.2.1 0, 600, .inl ghe))] := hD
                refine lv_iconst (v := 0) hx hb d_Md_data_112 (by decide) ?_
                refine lv_istore (lv' := [(6, .int 0), (5, .int 1), (0, .ref h), (1, .long nb), (3, .int nn), (4, .int mo)]) hx hb d_Md_data_113 hl (by decide) rfl (fun ls hl => ?_)
                obtain ⟨n9, hw⟩ := hw
                exact l_Md_data_115 G h xpg xli xty xen xtl xst xmn xdr xhe xrs xrm xrd xhr xki xin xpl xle xso xva xck xci xcp xcl xcs xcv A post nb nn 0 vtp vme vta vpl vel x_30 vus vrw vur vwr vch a_29 gmn gdr hx hb hr hml hown hlocks hcx hA n9 0 ghe hw _ _ hP hD hS ls (lv_sub hl [2, 3, 4, 0] rfl)
            · replace hw := hw.2 c_26
              refine lv_iconst (v := (-1)) hx hb d_Md_data_82 (by decide) ?_
              exact W.iret (v := (-1)) hx hb hr (fun t ht hW => ⟨⟨(-1), (0, vsg, vus, gst, gmn, ghe), rfl, hw, by have h9 := hP; rw [← ht] at h9; exact h9⟩, hS.F ht⟩) hS.2.2 d_Md_data_83
def wp_Md_element (post : Int32 → (Int32 × Int32 × Int32 × (Nat → Int32) × (Nat → Int32) × (Nat → Int32)) → Prop) (vth : Int32) (vtp : Int32) (vme : Int32) (vta : Int32) (vpl : Int32) (vel : Int32) (vsg : Int32) (vus : Int32) (vrw : Int32) (vur : Int32) (vwr : Int32) (vch : Int32) (grs : Nat → Int32) (grm : Nat → Int32) (grd : Nat → Int32) (ghr : Nat → Int32) (rf : Int32) (mo : Int32) : Prop := ((mo = 0 → (((24 ≤ vrw → (((rf < (-1) → (post (-1) (0, vrw, vur, grs, grm, ghr))) ∧ (¬ rf < (-1) → (post (-1) (0, vrw, vur, grs, grm, ghr)))))) ∧ (¬ 24 ≤ vrw → (((rf < (-1) → (post (-1) (0, vrw, vur, grs, grm, ghr))) ∧ (¬ rf < (-1) → (((¬ vur = 200 → (((¬ mo = 0 → ((vp_in vur 200) ∧ ∀ a_10 : Nat → Int32, a_10 = upd ghr vur.toNatClampNeg rf → (∀ x_11 : Int32, x_11 = vur + 1 → ((vp_in (vrw - 1) 24) ∧ ((vp_in (vrw - 1) 24) ∧ ∀ a_14 : Nat → Int32, a_14 = upd grm (vrw - 1).toNatClampNeg ((grm (vrw - 1).toNatClampNeg) + 1) → (post (vrw - 1) (0, vrw, x_11, grs, a_14, a_10))))))) ∧ (mo = 0 → ((vp_in vrw 24) ∧ ∀ a_16 : Nat → Int32, a_16 = upd grs vrw.toNatClampNeg vur → (∀ x_17 : Int32, x_17 = vrw + 1 → ((vp_in vur 200) ∧ ∀ a_19 : Nat → Int32, a_19 = upd ghr vur.toNatClampNeg rf → (∀ x_20 : Int32, x_20 = vur + 1 → ((vp_in (x_17 - 1) 24) ∧ ((vp_in (x_17 - 1) 24) ∧ ∀ a_23 : Nat → Int32, a_23 = upd grm (x_17 - 1).toNatClampNeg ((grm (x_17 - 1).toNatClampNeg) + 1) → (post (x_17 - 1) (0, x_17, x_20, a_16, a_23, a_19)))))))))))) ∧ (vur = 200 → (post (-1) (0, vrw, vur, grs, grm, ghr)))))))))))) ∧ (¬ mo = 0 → (((vrw ≤ 0 → (((rf < (-1) → (post (-1) (0, vrw, vur, grs, grm, ghr))) ∧ (¬ rf < (-1) → (post (-1) (0, vrw, vur, grs, grm, ghr)))))) ∧ (¬ vrw ≤ 0 → ((vp_in (vrw - 1) 24) ∧ (((¬ grd (vrw - 1).toNatClampNeg = 0 → (((rf < (-1) → (post (-1) (0, vrw, vur, grs, grm, ghr))) ∧ (¬ rf < (-1) → (post (-1) (0, vrw, vur, grs, grm, ghr)))))) ∧ (grd (vrw - 1).toNatClampNeg = 0 → (((rf < (-1) → (post (-1) (0, vrw, vur, grs, grm, ghr))) ∧ (¬ rf < (-1) → (((¬ vur = 200 → (((¬ mo = 0 → ((vp_in vur 200) ∧ ∀ a_36 : Nat → Int32, a_36 = upd ghr vur.toNatClampNeg rf → (∀ x_37 : Int32, x_37 = vur + 1 → ((vp_in (vrw - 1) 24) ∧ ((vp_in (vrw - 1) 24) ∧ ∀ a_40 : Nat → Int32, a_40 = upd grm (vrw - 1).toNatClampNeg ((grm (vrw - 1).toNatClampNeg) + 1) → (post (vrw - 1) (0, vrw, x_37, grs, a_40, a_36))))))) ∧ (mo = 0 → ((vp_in vrw 24) ∧ ∀ a_42 : Nat → Int32, a_42 = upd grs vrw.toNatClampNeg vur → (∀ x_43 : Int32, x_43 = vrw + 1 → ((vp_in vur 200) ∧ ∀ a_45 : Nat → Int32, a_45 = upd ghr vur.toNatClampNeg rf → (∀ x_46 : Int32, x_46 = vur + 1 → ((vp_in (x_43 - 1) 24) ∧ ((vp_in (x_43 - 1) 24) ∧ ∀ a_49 : Nat → Int32, a_49 = upd grm (x_43 - 1).toNatClampNeg ((grm (x_43 - 1).toNatClampNeg) + 1) → (post (x_43 - 1) (0, x_43, x_46, a_42, a_49, a_45)))))))))))) ∧ (vur = 200 → (post (-1) (0, vrw, vur, grs, grm, ghr)))))))))))))))))
set_option maxHeartbeats 4000000 in
set_option maxRecDepth 100000 in
theorem t_Md_element (l : Launch) (G : cxT) (h : Nat) (xpg : Nat) (xli : Nat) (xty : Nat) (xen : Nat) (xtl : Nat) (xst : Nat) (xmn : Nat) (xdr : Nat) (xhe : Nat) (xrs : Nat) (xrm : Nat) (xrd : Nat) (xhr : Nat) (xki : Nat) (xin : Nat) (xpl : Nat) (xle : Nat) (xso : Nat) (xva : Nat) (xck : Nat) (xci : Nat) (xcp : Nat) (xcl : Nat) (xcs : Nat) (xcv : Nat) (vth : Int32) (vtp : Int32) (vme : Int32) (vta : Int32) (vpl : Int32) (vel : Int32) (vsg : Int32) (vus : Int32) (vrw : Int32) (vur : Int32) (vwr : Int32) (vch : Int32) (grs : Nat → Int32) (grm : Nat → Int32) (grd : Nat → Int32) (ghr : Nat → Int32) (rf : Int32) (mo : Int32) (sz : Nat) (post : Int32 → (Int32 × Int32 × Int32 × (Nat → Int32) × (Nat → Int32) × (Nat → Int32)) → Prop) (hw : wp_Md_element post vth vtp vme vta vpl vel vsg vus vrw vur vwr vch grs grm grd ghr rf mo) : Met l y_Md_element [.code y_Md_element b_Md_element 4 (some .int)] ({ frames := 4, cells := 0, slots := 0, locals := 140 } : Room) (cm G [.ref h, .int rf, .int mo] [(h, .inr (2, [.int vth, .int vtp, .int vme, .int vta, .int vpl, .int vel, .ref xpg, .ref xli, .ref xty, .ref xen, .ref xtl, .int vsg, .int vus, .int vrw, .int vur, .ref xst, .ref xmn, .ref xdr, .ref xhe, .ref xrs, .ref xrm, .ref xrd, .ref xhr, .int vwr, .int vch, .ref xki, .ref xin, .ref xpl, .ref xle, .ref xso, .ref xva, .ref xck, .ref xci, .ref xcp, .ref xcl, .ref xcs, .ref xcv])), (xrs, .inl (G.2.1 0, 24, .inl grs)), (xrm, .inl (G.2.1 0, 24, .inl grm)), (xrd, .inl (G.2.1 2, 24, .inl grd)), (xhr, .inl (G.2.1 0, 200, .inl ghr))] sz) (va_Qi post (fun u t => va_P G.1 vwC [(h, .inr (2, [.int u.1, .int vtp, .int vme, .int vta, .int vpl, .int vel, .ref xpg, .ref xli, .ref xty, .ref xen, .ref xtl, .int vsg, .int vus, .int u.2.1, .int u.2.2.1, .ref xst, .ref xmn, .ref xdr, .ref xhe, .ref xrs, .ref xrm, .ref xrd, .ref xhr, .int vwr, .int vch, .ref xki, .ref xin, .ref xpl, .ref xle, .ref xso, .ref xva, .ref xck, .ref xci, .ref xcp, .ref xcl, .ref xcs, .ref xcv])), (xrs, .inl (G.2.1 0, 24, .inl u.2.2.2.1)), (xrm, .inl (G.2.1 0, 24, .inl u.2.2.2.2.1)), (xrd, .inl (G.2.1 2, 24, .inl grd)), (xhr, .inl (G.2.1 0, 200, .inl u.2.2.2.2.2))] t.heap) (va_A [(h, .inr (2, [.int vth, .int vtp, .int vme, .int vta, .int vpl, .int vel, .ref xpg, .ref xli, .ref xty, .ref xen, .ref xtl, .int vsg, .int vus, .int vrw, .int vur, .ref xst, .ref xmn, .ref xdr, .ref xhe, .ref xrs, .ref xrm, .ref xrd, .ref xhr, .int vwr, .int vch, .ref xki, .ref xin, .ref xpl, .ref xle, .ref xso, .ref xva, .ref xck, .ref xci, .ref xcp, .ref xcl, .ref xcs, .ref xcv])), (xrs, .inl (G.2.1 0, 24, .inl grs)), (xrm, .inl (G.2.1 0, 24, .inl grm)), (xrd, .inl (G.2.1 2, 24, .inl grd)), (xhr, .inl (G.2.1 0, 200, .inl ghr))] sz)) 0 0 (va_A [(h, .inr (2, [.int vth, .int vtp, .int vme, .int vta, .int vpl, .int vel, .ref xpg, .ref xli, .ref xty, .ref xen, .ref xtl, .int vsg, .int vus, .int vrw, .int vur, .ref xst, .ref xmn, .ref xdr, .ref xhe, .ref xrs, .ref xrm, .ref xrd, .ref xhr, .int vwr, .int vch, .ref xki, .ref xin, .ref xpl, .ref xle, .ref xso, .ref xva, .ref xck, .ref xci, .ref xcp, .ref xcl, .ref xcs, .ref xcv])), (xrs, .inl (G.2.1 0, 24, .inl grs)), (xrm, .inl (G.2.1 0, 24, .inl grm)), (xrd, .inl (G.2.1 2, 24, .inl grd)), (xhr, .inl (G.2.1 0, 200, .inl ghr))] sz) := by
  refine Met.ofW (cc := b_Md_element) (maxL := 4) (ret := (some .int)) (by decide +kernel) rfl ?_
  intro p e s m args below meth c s₁ B hml hv
  obtain ⟨rfl, hsz, hcx, hP, hD0⟩ := hv
  have hx := B.exec
  have hb := B.bytes
  have hr := B.returns
  have hlocks := B.notSynchronized
  have hown : s.vm.findClass R_Md = some m.cls := findClass_of_methodNamed B.named
  subst hsz
  have hD := hD0.self (sz := s.heap.size)
  generalize hAe : va_A [(h, .inr (2, [.int vth, .int vtp, .int vme, .int vta, .int vpl, .int vel, .ref xpg, .ref xli, .ref xty, .ref xen, .ref xtl, .int vsg, .int vus, .int vrw, .int vur, .ref xst, .ref xmn, .ref xdr, .ref xhe, .ref xrs, .ref xrm, .ref xrd, .ref xhr, .int vwr, .int vch, .ref xki, .ref xin, .ref xpl, .ref xle, .ref xso, .ref xva, .ref xck, .ref xci, .ref xcp, .ref xcl, .ref xcs, .ref xcv])), (xrs, .inl (G.2.1 0, 24, .inl grs)), (xrm, .inl (G.2.1 0, 24, .inl grm)), (xrd, .inl (G.2.1 2, 24, .inl grd)), (xhr, .inl (G.2.1 0, 200, .inl ghr))] s.heap.size = A at hD hcx ⊢
  have hA : ∀ q : Nat, s.heap.size ≤ q → A q := fun q h => by rw [← hAe]; exact Or.inr h
  have hS : va_S A s.heap s.heap [] := va_S.rf
  have hts := hcx.now.1 [.ref h, .int rf, .int mo].toArray
  have hK := hcx.now.2.1
  have hl := lv_entry ([.ref h, .int rf, .int mo]) (n := 4) (Nat.le_of_ble_eq_true rfl)
  rw [lg_entry_eq]
  generalize (lg_sl ([.ref h, .int rf, .int mo]) ++ List.replicate (4 - (lg_sl ([.ref h, .int rf, .int mo])).length) Slot.unset).toArray = ls at hl ⊢
  have hl : lv_has ls 4 [(0, .ref h), (1, .int rf), (2, .int mo)] := hl
  unfold wp_Md_element at hw
  refine lv_aload_n hx hb d_Md_element_0 rfl (lv_at hl 0 rfl) ?_
  refine lv_iconst (v := 0) hx hb d_Md_element_1 (by decide) ?_
  refine va_put (D := G.1) (ci := 2) (v := .int 0) (ty := (.int)) (C := R_Md) (T := T_Md) (N := 37) hx hb hts in_Md ty_Md tk_Md nm_Md hown hK hP hD hS 0 rfl rfl 0 (by decide) (hts _ fl_Md_94) (fun _ h9 => h9) rfl (by decide +kernel) rfl rfl (Nat.le_of_ble_eq_true rfl) d_Md_element_2 (fun H locs hP hD hS => ?_)
  have hP : va_P G.1 vwC [(h, .inr (2, [.int 0, .int vtp, .int vme, .int vta, .int vpl, .int vel, .ref xpg, .ref xli, .ref xty, .ref xen, .ref xtl, .int vsg, .int vus, .int vrw, .int vur, .ref xst, .ref xmn, .ref xdr, .ref xhe, .ref xrs, .ref xrm, .ref xrd, .ref xhr, .int vwr, .int vch, .ref xki, .ref xin, .ref xpl, .ref xle, .ref xso, .ref xva, .ref xck, .ref xci, .ref xcp, .ref xcl, .ref xcs, .ref xcv])), (xrs, .inl (G.2.1 0, 24, .inl grs)), (xrm, .inl (G.2.1 0, 24, .inl grm)), (xrd, .inl (G.2.1 2, 24, .inl grd)), (xhr, .inl (G.2.1 0, 200, .inl ghr))] H := hP
  have hD : va_D A [(h, .inr (2, [.int 0, .int vtp, .int vme, .int vta, .int vpl, .int vel, .ref xpg, .ref xli, .ref xty, .ref xen, .ref xtl, .int vsg, .int vus, .int vrw, .int vur, .ref xst, .ref xmn, .ref xdr, .ref xhe, .ref xrs, .ref xrm, .ref xrd, .ref xhr, .int vwr, .int vch, .ref xki, .ref xin, .ref xpl, .ref xle, .ref xso, .ref xva, .ref xck, .ref xci, .ref xcp, .ref xcl, .ref xcs, .ref xcv])), (xrs, .inl (G.2.1 0, 24, .inl grs)), (xrm, .inl (G.2.1 0, 24, .inl grm)), (xrd, .inl (G.2.1 2, 24, .inl grd)), (xhr, .inl (G.2.1 0, 200, .inl ghr))] := hD
  refine lv_iload_n hx hb d_Md_element_5 rfl (lv_at hl 2 rfl) ?_
  refine lv_if_eq (tgt := 38) hx hb d_Md_element_6 (by decide) (fun c_1 => ?_) (fun c_1 => ?_)
  · replace hw := hw.1 c_1
    refine lv_aload_n hx hb d_Md_element_38 rfl (lv_at hl 0 rfl) ?_
    refine va_get (D := G.1) (ci := 2) (v := .int vrw) (C := R_Md) (T := T_Md) (N := 37) hx hb hts in_Md hown hK hP 0 rfl rfl 13 (by decide) (hts _ fl_Md_163) (fun _ h9 => h9) rfl d_Md_element_39 ?_
    refine lv_bipush (v := 24) hx hb d_Md_element_42 (by decide) ?_
    refine lv_icmp_ge (tgt := 51) hx hb d_Md_element_44 (by decide) (fun c_2 => ?_) (fun c_2 => ?_)
    · replace hw := hw.1 c_2
      refine lv_iconst (v := 0) hx hb d_Md_element_51 (by decide) ?_
      refine lv_istore_n (lv' := [(3, .int 0), (0, .ref h), (1, .int rf), (2, .int mo)]) hx hb d_Md_element_52 rfl hl (by decide) rfl (fun ls hl => ?_)
      refine lv_iload_n hx hb d_Md_element_53 rfl (lv_at hl 2 rfl) ?_
      refine lv_iconst (v := (-1)) hx hb d_Md_element_54 (by decide) ?_
      refine lv_icmp_lt (tgt := 72) hx hb d_Md_element_55 (by decide) (fun c_3 => ?_) (fun c_3 => ?_)
      · replace hw := hw.1 c_3
        refine lv_iconst (v := (-1)) hx hb d_Md_element_72 (by decide) ?_
        exact W.iret (v := (-1)) hx hb hr (fun t ht hW => ⟨⟨(-1), (0, vrw, vur, grs, grm, ghr), rfl, hw, by have h9 := hP; rw [← ht] at h9; exact h9⟩, hS.F ht⟩) hS.2.2 d_Md_element_73
      · replace hw := hw.2 c_3
        refine lv_iload_n hx hb d_Md_element_58 rfl (lv_at hl 0 rfl) ?_
        refine lv_if_eq (tgt := 72) hx hb d_Md_element_59 (by decide) (fun _ => ?_) (fun c_4 => absurd c_4 (by decide))
        refine lv_iconst (v := (-1)) hx hb d_Md_element_72 (by decide) ?_
        exact W.iret (v := (-1)) hx hb hr (fun t ht hW => ⟨⟨(-1), (0, vrw, vur, grs, grm, ghr), rfl, hw, by have h9 := hP; rw [← ht] at h9; exact h9⟩, hS.F ht⟩) hS.2.2 d_Md_element_73
    · replace hw := hw.2 c_2
      refine lv_iconst (v := 1) hx hb d_Md_element_47 (by decide) ?_
      refine lv_goto (tgt := 52) hx hb d_Md_element_48 (by decide) ?_
      refine lv_istore_n (lv' := [(3, .int 1), (0, .ref h), (1, .int rf), (2, .int mo)]) hx hb d_Md_element_52 rfl hl (by decide) rfl (fun ls hl => ?_)
      refine lv_iload_n hx hb d_Md_element_53 rfl (lv_at hl 2 rfl) ?_
      refine lv_iconst (v := (-1)) hx hb d_Md_element_54 (by decide) ?_
      refine lv_icmp_lt (tgt := 72) hx hb d_Md_element_55 (by decide) (fun c_5 => ?_) (fun c_5 => ?_)
      · replace hw := hw.1 c_5
        refine lv_iconst (v := (-1)) hx hb d_Md_element_72 (by decide) ?_
        exact W.iret (v := (-1)) hx hb hr (fun t ht hW => ⟨⟨(-1), (0, vrw, vur, grs, grm, ghr), rfl, hw, by have h9 := hP; rw [← ht] at h9; exact h9⟩, hS.F ht⟩) hS.2.2 d_Md_element_73
      · replace hw := hw.2 c_5
        refine lv_iload_n hx hb d_Md_element_58 rfl (lv_at hl 0 rfl) ?_
        refine lv_if_eq (tgt := 72) hx hb d_Md_element_59 (by decide) (fun c_6 => absurd c_6 (by decide)) (fun _ => ?_)
        refine lv_aload_n hx hb d_Md_element_62 rfl (lv_at hl 1 rfl) ?_
        refine va_get (D := G.1) (ci := 2) (v := .int vur) (C := R_Md) (T := T_Md) (N := 37) hx hb hts in_Md hown hK hP 0 rfl rfl 14 (by decide) (hts _ fl_Md_166) (fun _ h9 => h9) rfl d_Md_element_63 ?_
        refine lv_sipush (v := 200) hx hb d_Md_element_66 (by decide) ?_
        refine lv_icmp_ne (tgt := 74) hx hb d_Md_element_69 (by decide) (fun c_7 => ?_) (fun c_7 => ?_)
        · replace hw := hw.1 c_7
          refine lv_iload_n hx hb d_Md_element_74 rfl (lv_at hl 3 rfl) ?_
          refine lv_if_ne (tgt := 101) hx hb d_Md_element_75 (by decide) (fun c_8 => ?_) (fun c_8 => ?_)
          · replace hw := hw.1 c_8
            refine lv_aload_n hx hb d_Md_element_101 rfl (lv_at hl 1 rfl) ?_
            refine va_get (D := G.1) (ci := 2) (v := .ref xhr) (C := R_Md) (T := T_Md) (N := 37) hx hb hts in_Md hown hK hP 0 rfl rfl 22 (by decide) (hts _ fl_Md_54) (fun _ h9 => h9) rfl d_Md_element_102 ?_
            refine lv_aload_n hx hb d_Md_element_105 rfl (lv_at hl 1 rfl) ?_
            refine va_get (D := G.1) (ci := 2) (v := .int vur) (C := R_Md) (T := T_Md) (N := 37) hx hb hts in_Md hown hK hP 0 rfl rfl 14 (by decide) (hts _ fl_Md_166) (fun _ h9 => h9) rfl d_Md_element_106 ?_
            refine lv_iload_n hx hb d_Md_element_109 rfl (lv_at hl 2 rfl) ?_
            obtain ⟨h_9, hw⟩ := hw
            obtain ⟨a_10, ea_10⟩ : ∃ z, z = upd ghr vur.toNatClampNeg rf := ⟨_, rfl⟩
            replace hw := hw a_10 ea_10
            refine va_iast hx hb hK hP hD hS 4 0 rfl rfl h_9 d_Md_element_110 (fun H locs hP hD hS => ?_)
            rw [← ea_10] at hP hD
            have hP : va_P G.1 vwC [(h, .inr (2, [.int 0, .int vtp, .int vme, .int vta, .int vpl, .int vel, .ref xpg, .ref xli, .ref xty, .ref xen, .ref xtl, .int vsg, .int vus, .int vrw, .int vur, .ref xst, .ref xmn, .ref xdr, .ref xhe, .ref xrs, .ref xrm, .ref xrd, .ref xhr, .int vwr, .int vch, .ref xki, .ref xin, .ref xpl, .ref xle, .ref xso, .ref xva, .ref xck, .ref xci, .ref xcp, .ref xcl, .ref xcs, .ref xcv])), (xrs, .inl (G.2.1 0, 24, .inl grs)), (xrm, .inl (G.2.1 0, 24, .inl grm)), (xrd, .inl (G.2.1 2, 24, .inl grd)), (xhr, .inl (G.2.1 0, 200, .inl a_10))] H := hP
            have hD : va_D A [(h, .inr (2, [.int 0, .int vtp, .int vme, .int vta, .int vpl, .int vel, .ref xpg, .ref xli, .ref xty, .ref xen, .ref xtl, .int vsg, .int vus, .int vrw, .int vur, .ref xst, .ref xmn, .ref xdr, .ref xhe, .ref xrs, .ref xrm, .ref xrd, .ref xhr, .int vwr, .int vch, .ref xki, .ref xin, .ref xpl, .ref xle, .ref xso, .ref xva, .ref xck, .ref xci, .ref xcp, .ref xcl, .ref xcs, .ref xcv])), (xrs, .inl (G.2.1 0, 24, .inl grs)), (xrm, .inl (G.2.1 0, 24, .inl grm)), (xrd, .inl (G.2.1 2, 24, .inl grd)), (xhr, .inl (G.2.1 0, 200, .inl a_10))] := hD
            refine lv_aload_n hx hb d_Md_element_111 rfl (lv_at hl 1 rfl) ?_
            refine lv_dup hx hb d_Md_element_112 rfl ?_
            refine va_get (D := G.1) (ci := 2) (v := .int vur) (C := R_Md) (T := T_Md) (N := 37) hx hb hts in_Md hown hK hP 0 rfl rfl 14 (by decide) (hts _ fl_Md_166) (fun _ h9 => h9) rfl d_Md_element_113 ?_
            refine lv_iconst (v := 1) hx hb d_Md_element_116 (by decide) ?_
            refine lv_iadd hx hb d_Md_element_117 ?_
            refine lv_topi (fun x_11 ex_11 => ?_)
            replace hw := hw x_11 ex_11
            refine va_put (D := G.1) (ci := 2) (v := .int x_11) (ty := (.int)) (C := R_Md) (T := T_Md) (N := 37) hx hb hts in_Md ty_Md tk_Md nm_Md hown hK hP hD hS 0 rfl rfl 14 (by decide) (hts _ fl_Md_166) (fun _ h9 => h9) rfl (by decide +kernel) rfl rfl (Nat.le_of_ble_eq_true rfl) d_Md_element_118 (fun H locs hP hD hS => ?_)
            have hP : va_P G.1 vwC [(h, .inr (2, [.int 0, .int vtp, .int vme, .int vta, .int vpl, .int vel, .ref xpg, .ref xli, .ref xty, .ref xen, .ref xtl, .int vsg, .int vus, .int vrw, .int x_11, .ref xst, .ref xmn, .ref xdr, .ref xhe, .ref xrs, .ref xrm, .ref xrd, .ref xhr, .int vwr, .int vch, .ref xki, .ref xin, .ref xpl, .ref xle, .ref xso, .ref xva, .ref xck, .ref xci, .ref xcp, .ref xcl, .ref xcs, .ref xcv])), (xrs, .inl (G.2.1 0, 24, .inl grs)), (xrm, .inl (G.2.1 0, 24, .inl grm)), (xrd, .inl (G.2.1 2, 24, .inl grd)), (xhr, .inl (G.2.1 0, 200, .inl a_10))] H := hP
            have hD : va_D A [(h, .inr (2, [.int 0, .int vtp, .int vme, .int vta, .int vpl, .int vel, .ref xpg, .ref xli, .ref xty, .ref xen, .ref xtl, .int vsg, .int vus, .int vrw, .int x_11, .ref xst, .ref xmn, .ref xdr, .ref xhe, .ref xrs, .ref xrm, .ref xrd, .ref xhr, .int vwr, .int vch, .ref xki, .ref xin, .ref xpl, .ref xle, .ref xso, .ref xva, .ref xck, .ref xci, .ref xcp, .ref xcl, .ref xcs, .ref xcv])), (xrs, .inl (G.2.1 0, 24, .inl grs)), (xrm, .inl (G.2.1 0, 24, .inl grm)), (xrd, .inl (G.2.1 2, 24, .inl grd)), (xhr, .inl (G.2.1 0, 200, .inl a_10))] := hD
            refine lv_aload_n hx hb d_Md_element_121 rfl (lv_at hl 1 rfl) ?_
            refine va_get (D := G.1) (ci := 2) (v := .ref xrm) (C := R_Md) (T := T_Md) (N := 37) hx hb hts in_Md hown hK hP 0 rfl rfl 20 (by decide) (hts _ fl_Md_48) (fun _ h9 => h9) rfl d_Md_element_122 ?_
            refine lv_aload_n hx hb d_Md_element_125 rfl (lv_at hl 1 rfl) ?_
            refine va_get (D := G.1) (ci := 2) (v := .int vrw) (C := R_Md) (T := T_Md) (N := 37) hx hb hts in_Md hown hK hP 0 rfl rfl 13 (by decide) (hts _ fl_Md_163) (fun _ h9 => h9) rfl d_Md_element_126 ?_
            refine lv_iconst (v := 1) hx hb d_Md_element_129 (by decide) ?_
            refine lv_isub hx hb d_Md_element_130 ?_
            refine lv_dup2_11 hx hb d_Md_element_131 rfl rfl ?_
            obtain ⟨h_12, hw⟩ := hw
            refine va_iald hx hb hK hP 2 0 rfl rfl h_12 d_Md_element_132 ?_
            refine lv_iconst (v := 1) hx hb d_Md_element_133 (by decide) ?_
            refine lv_iadd hx hb d_Md_element_134 ?_
            obtain ⟨h_13, hw⟩ := hw
            obtain ⟨a_14, ea_14⟩ : ∃ z, z = upd grm (vrw - 1).toNatClampNeg ((grm (vrw - 1).toNatClampNeg) + 1) := ⟨_, rfl⟩
            replace hw := hw a_14 ea_14
            refine va_iast hx hb hK hP hD hS 2 0 rfl rfl h_13 d_Md_element_135 (fun H locs hP hD hS => ?_)
            rw [← ea_14] at hP hD
            have hP : va_P G.1 vwC [(h, .inr (2, [.int 0, .int vtp, .int vme, .int vta, .int vpl, .int vel, .ref xpg, .ref xli, .ref xty, .ref xen, .ref xtl, .int vsg, .int vus, .int vrw, .int x_11, .ref xst, .ref xmn, .ref xdr, .ref xhe, .ref xrs, .ref xrm, .ref xrd, .ref xhr, .int vwr, .int vch, .ref xki, .ref xin, .ref xpl, .ref xle, .ref xso, .ref xva, .ref xck, .ref xci, .ref xcp, .ref xcl, .ref xcs, .ref xcv])), (xrs, .inl (G.2.1 0, 24, .inl grs)), (xrm, .inl (G.2.1 0, 24, .inl a_14)), (xrd, .inl (G.2.1 2, 24, .inl grd)), (xhr, .inl (G.2.1 0, 200, .inl a_10))] H := hP
            have hD : va_D A [(h, .inr (2, [.int 0, .int vtp, .int vme, .int vta, .int vpl, .int vel, .ref xpg, .ref xli, .ref xty, .ref xen, .ref xtl, .int vsg, .int vus, .int vrw, .int x_11, .ref xst, .ref xmn, .ref xdr, .ref xhe, .ref xrs, .ref xrm, .ref xrd, .ref xhr, .int vwr, .int vch, .ref xki, .ref xin, .ref xpl, .ref xle, .ref xso, .ref xva, .ref xck, .ref xci, .ref xcp, .ref xcl, .ref xcs, .ref xcv])), (xrs, .inl (G.2.1 0, 24, .inl grs)), (xrm, .inl (G.2.1 0, 24, .inl a_14)), (xrd, .inl (G.2.1 2, 24, .inl grd)), (xhr, .inl (G.2.1 0, 200, .inl a_10))] := hD
            refine lv_aload_n hx hb d_Md_element_136 rfl (lv_at hl 1 rfl) ?_
            refine va_get (D := G.1) (ci := 2) (v := .int vrw) (C := R_Md) (T := T_Md) (N := 37) hx hb hts in_Md hown hK hP 0 rfl rfl 13 (by decide) (hts _ fl_Md_163) (fun _ h9 => h9) rfl d_Md_element_137 ?_
            refine lv_iconst (v := 1) hx hb d_Md_element_140 (by decide) ?_
            refine lv_isub hx hb d_Md_element_141 ?_
            exact W.iret (v := vrw - 1) hx hb hr (fun t ht hW => ⟨⟨vrw - 1, (0, vrw, x_11, grs, a_14, a_10), rfl, hw, by have h9 := hP; rw [← ht] at h9; exact h9⟩, hS.F ht⟩) hS.2.2 d_Md_element_142
          · replace hw := hw.2 c_8
            refine lv_aload_n hx hb d_Md_element_78 rfl (lv_at hl 1 rfl) ?_
            refine va_get (D := G.1) (ci := 2) (v := .ref xrs) (C := R_Md) (T := T_Md) (N := 37) hx hb hts in_Md hown hK hP 0 rfl rfl 19 (by decide) (hts _ fl_Md_45) (fun _ h9 => h9) rfl d_Md_element_79 ?_
            refine lv_aload_n hx hb d_Md_element_82 rfl (lv_at hl 1 rfl) ?_
            refine va_get (D := G.1) (ci := 2) (v := .int vrw) (C := R_Md) (T := T_Md) (N := 37) hx hb hts in_Md hown hK hP 0 rfl rfl 13 (by decide) (hts _ fl_Md_163) (fun _ h9 => h9) rfl d_Md_element_83 ?_
            refine lv_aload_n hx hb d_Md_element_86 rfl (lv_at hl 1 rfl) ?_
            refine va_get (D := G.1) (ci := 2) (v := .int vur) (C := R_Md) (T := T_Md) (N := 37) hx hb hts in_Md hown hK hP 0 rfl rfl 14 (by decide) (hts _ fl_Md_166) (fun _ h9 => h9) rfl d_Md_element_87 ?_
            obtain ⟨h_15, hw⟩ := hw
            obtain ⟨a_16, ea_16⟩ : ∃ z, z = upd grs vrw.toNatClampNeg vur := ⟨_, rfl⟩
            replace hw := hw a_16 ea_16
            refine va_iast hx hb hK hP hD hS 1 0 rfl rfl h_15 d_Md_element_90 (fun H locs hP hD hS => ?_)
            rw [← ea_16] at hP hD
            have hP : va_P G.1 vwC [(h, .inr (2, [.int 0, .int vtp, .int vme, .int vta, .int vpl, .int vel, .ref xpg, .ref xli, .ref xty, .ref xen, .ref xtl, .int vsg, .int vus, .int vrw, .int vur, .ref xst, .ref xmn, .ref xdr, .ref xhe, .ref xrs, .ref xrm, .ref xrd, .ref xhr, .int vwr, .int vch, .ref xki, .ref xin, .ref xpl, .ref xle, .ref xso, .ref xva, .ref xck, .ref xci, .ref xcp, .ref xcl, .ref xcs, .ref xcv])), (xrs, .inl (G.2.1 0, 24, .inl a_16)), (xrm, .inl (G.2.1 0, 24, .inl grm)), (xrd, .inl (G.2.1 2, 24, .inl grd)), (xhr, .inl (G.2.1 0, 200, .inl ghr))] H := hP
            have hD : va_D A [(h, .inr (2, [.int 0, .int vtp, .int vme, .int vta, .int vpl, .int vel, .ref xpg, .ref xli, .ref xty, .ref xen, .ref xtl, .int vsg, .int vus, .int vrw, .int vur, .ref xst, .ref xmn, .ref xdr, .ref xhe, .ref xrs, .ref xrm, .ref xrd, .ref xhr, .int vwr, .int vch, .ref xki, .ref xin, .ref xpl, .ref xle, .ref xso, .ref xva, .ref xck, .ref xci, .ref xcp, .ref xcl, .ref xcs, .ref xcv])), (xrs, .inl (G.2.1 0, 24, .inl a_16)), (xrm, .inl (G.2.1 0, 24, .inl grm)), (xrd, .inl (G.2.1 2, 24, .inl grd)), (xhr, .inl (G.2.1 0, 200, .inl ghr))] := hD
            refine lv_aload_n hx hb d_Md_element_91 rfl (lv_at hl 1 rfl) ?_
            refine lv_dup hx hb d_Md_element_92 rfl ?_
            refine va_get (D := G.1) (ci := 2) (v := .int vrw) (C := R_Md) (T := T_Md) (N := 37) hx hb hts in_Md hown hK hP 0 rfl rfl 13 (by decide) (hts _ fl_Md_163) (fun _ h9 => h9) rfl d_Md_element_93 ?_
            refine lv_iconst (v := 1) hx hb d_Md_element_96 (by decide) ?_
            refine lv_iadd hx hb d_Md_element_97 ?_
            refine lv_topi (fun x_17 ex_17 => ?_)
            replace hw := hw x_17 ex_17
            refine va_put (D := G.1) (ci := 2) (v := .int x_17) (ty := (.int)) (C := R_Md) (T := T_Md) (N := 37) hx hb hts in_Md ty_Md tk_Md nm_Md hown hK hP hD hS 0 rfl rfl 13 (by decide) (hts _ fl_Md_163) (fun _ h9 => h9) rfl (by decide +kernel) rfl rfl (Nat.le_of_ble_eq_true rfl) d_Md_element_98 (fun H locs hP hD hS => ?_)
            have hP : va_P G.1 vwC [(h, .inr (2, [.int 0, .int vtp, .int vme, .int vta, .int vpl, .int vel, .ref xpg, .ref xli, .ref xty, .ref xen, .ref xtl, .int vsg, .int vus, .int x_17, .int vur, .ref xst, .ref xmn, .ref xdr, .ref xhe, .ref xrs, .ref xrm, .ref xrd, .ref xhr, .int vwr, .int vch, .ref xki, .ref xin, .ref xpl, .ref xle, .ref xso, .ref xva, .ref xck, .ref xci, .ref xcp, .ref xcl, .ref xcs, .ref xcv])), (xrs, .inl (G.2.1 0, 24, .inl a_16)), (xrm, .inl (G.2.1 0, 24, .inl grm)), (xrd, .inl (G.2.1 2, 24, .inl grd)), (xhr, .inl (G.2.1 0, 200, .inl ghr))] H := hP
            have hD : va_D A [(h, .inr (2, [.int 0, .int vtp, .int vme, .int vta, .int vpl, .int vel, .ref xpg, .ref xli, .ref xty, .ref xen, .ref xtl, .int vsg, .int vus, .int x_17, .int vur, .ref xst, .ref xmn, .ref xdr, .ref xhe, .ref xrs, .ref xrm, .ref xrd, .ref xhr, .int vwr, .int vch, .ref xki, .ref xin, .ref xpl, .ref xle, .ref xso, .ref xva, .ref xck, .ref xci, .ref xcp, .ref xcl, .ref xcs, .ref xcv])), (xrs, .inl (G.2.1 0, 24, .inl a_16)), (xrm, .inl (G.2.1 0, 24, .inl grm)), (xrd, .inl (G.2.1 2, 24, .inl grd)), (xhr, .inl (G.2.1 0, 200, .inl ghr))] := hD
            refine lv_aload_n hx hb d_Md_element_101 rfl (lv_at hl 1 rfl) ?_
            refine va_get (D := G.1) (ci := 2) (v := .ref xhr) (C := R_Md) (T := T_Md) (N := 37) hx hb hts in_Md hown hK hP 0 rfl rfl 22 (by decide) (hts _ fl_Md_54) (fun _ h9 => h9) rfl d_Md_element_102 ?_
            refine lv_aload_n hx hb d_Md_element_105 rfl (lv_at hl 1 rfl) ?_
            refine va_get (D := G.1) (ci := 2) (v := .int vur) (C := R_Md) (T := T_Md) (N := 37) hx hb hts in_Md hown hK hP 0 rfl rfl 14 (by decide) (hts _ fl_Md_166) (fun _ h9 => h9) rfl d_Md_element_106 ?_
            refine lv_iload_n hx hb d_Md_element_109 rfl (lv_at hl 2 rfl) ?_
            obtain ⟨h_18, hw⟩ := hw
            obtain ⟨a_19, ea_19⟩ : ∃ z, z = upd ghr vur.toNatClampNeg rf := ⟨_, rfl⟩
            replace hw := hw a_19 ea_19
            refine va_iast hx hb hK hP hD hS 4 0 rfl rfl h_18 d_Md_element_110 (fun H locs hP hD hS => ?_)
            rw [← ea_19] at hP hD
            have hP : va_P G.1 vwC [(h, .inr (2, [.int 0, .int vtp, .int vme, .int vta, .int vpl, .int vel, .ref xpg, .ref xli, .ref xty, .ref xen, .ref xtl, .int vsg, .int vus, .int x_17, .int vur, .ref xst, .ref xmn, .ref xdr, .ref xhe, .ref xrs, .ref xrm, .ref xrd, .ref xhr, .int vwr, .int vch, .ref xki, .ref xin, .ref xpl, .ref xle, .ref xso, .ref xva, .ref xck, .ref xci, .ref xcp, .ref xcl, .ref xcs, .ref xcv])), (xrs, .inl (G.2.1 0, 24, .inl a_16)), (xrm, .inl (G.2.1 0, 24, .inl grm)), (xrd, .inl (G.2.1 2, 24, .inl grd)), (xhr, .inl (G.2.1 0, 200, .inl a_19))] H := hP
            have hD : va_D A [(h, .inr (2, [.int 0, .int vtp, .int vme, .int vta, .int vpl, .int vel, .ref xpg, .ref xli, .ref xty, .ref xen, .ref xtl, .int vsg, .int vus, .int x_17, .int vur, .ref xst, .ref xmn, .ref xdr, .ref xhe, .ref xrs, .ref xrm, .ref xrd, .ref xhr, .int vwr, .int vch, .ref xki, .ref xin, .ref xpl, .ref xle, .ref xso, .ref xva, .ref xck, .ref xci, .ref xcp, .ref xcl, .ref xcs, .ref xcv])), (xrs, .inl (G.2.1 0, 24, .inl a_16)), (xrm, .inl (G.2.1 0, 24, .inl grm)), (xrd, .inl (G.2.1 2, 24, .inl grd)), (xhr, .inl (G.2.1 0, 200, .inl a_19))] := hD
            refine lv_aload_n hx hb d_Md_element_111 rfl (lv_at hl 1 rfl) ?_
            refine lv_dup hx hb d_Md_element_112 rfl ?_
            refine va_get (D := G.1) (ci := 2) (v := .int vur) (C := R_Md) (T := T_Md) (N := 37) hx hb hts in_Md hown hK hP 0 rfl rfl 14 (by decide) (hts _ fl_Md_166) (fun _ h9 => h9) rfl d_Md_element_113 ?_
            refine lv_iconst (v := 1) hx hb d_Md_element_116 (by decide) ?_
            refine lv_iadd hx hb d_Md_element_117 ?_
            refine lv_topi (fun x_20 ex_20 => ?_)
            replace hw := hw x_20 ex_20
            refine va_put (D := G.1) (ci := 2) (v := .int x_20) (ty := (.int)) (C := R_Md) (T := T_Md) (N := 37) hx hb hts in_Md ty_Md tk_Md nm_Md hown hK hP hD hS 0 rfl rfl 14 (by decide) (hts _ fl_Md_166) (fun _ h9 => h9) rfl (by decide +kernel) rfl rfl (Nat.le_of_ble_eq_true rfl) d_Md_element_118 (fun H locs hP hD hS => ?_)
            have hP : va_P G.1 vwC [(h, .inr (2, [.int 0, .int vtp, .int vme, .int vta, .int vpl, .int vel, .ref xpg, .ref xli, .ref xty, .ref xen, .ref xtl, .int vsg, .int vus, .int x_17, .int x_20, .ref xst, .ref xmn, .ref xdr, .ref xhe, .ref xrs, .ref xrm, .ref xrd, .ref xhr, .int vwr, .int vch, .ref xki, .ref xin, .ref xpl, .ref xle, .ref xso, .ref xva, .ref xck, .ref xci, .ref xcp, .ref xcl, .ref xcs, .ref xcv])), (xrs, .inl (G.2.1 0, 24, .inl a_16)), (xrm, .inl (G.2.1 0, 24, .inl grm)), (xrd, .inl (G.2.1 2, 24, .inl grd)), (xhr, .inl (G.2.1 0, 200, .inl a_19))] H := hP
            have hD : va_D A [(h, .inr (2, [.int 0, .int vtp, .int vme, .int vta, .int vpl, .int vel, .ref xpg, .ref xli, .ref xty, .ref xen, .ref xtl, .int vsg, .int vus, .int x_17, .int x_20, .ref xst, .ref xmn, .ref xdr, .ref xhe, .ref xrs, .ref xrm, .ref xrd, .ref xhr, .int vwr, .int vch, .ref xki, .ref xin, .ref xpl, .ref xle, .ref xso, .ref xva, .ref xck, .ref xci, .ref xcp, .ref xcl, .ref xcs, .ref xcv])), (xrs, .inl (G.2.1 0, 24, .inl a_16)), (xrm, .inl (G.2.1 0, 24, .inl grm)), (xrd, .inl (G.2.1 2, 24, .inl grd)), (xhr, .inl (G.2.1 0, 200, .inl a_19))] := hD
            refine lv_aload_n hx hb d_Md_element_121 rfl (lv_at hl 1 rfl) ?_
            refine va_get (D := G.1) (ci := 2) (v := .ref xrm) (C := R_Md) (T := T_Md) (N := 37) hx hb hts in_Md hown hK hP 0 rfl rfl 20 (by decide) (hts _ fl_Md_48) (fun _ h9 => h9) rfl d_Md_element_122 ?_
            refine lv_aload_n hx hb d_Md_element_125 rfl (lv_at hl 1 rfl) ?_
            refine va_get (D := G.1) (ci := 2) (v := .int x_17) (C := R_Md) (T := T_Md) (N := 37) hx hb hts in_Md hown hK hP 0 rfl rfl 13 (by decide) (hts _ fl_Md_163) (fun _ h9 => h9) rfl d_Md_element_126 ?_
            refine lv_iconst (v := 1) hx hb d_Md_element_129 (by decide) ?_
            refine lv_isub hx hb d_Md_element_130 ?_
            refine lv_dup2_11 hx hb d_Md_element_131 rfl rfl ?_
            obtain ⟨h_21, hw⟩ := hw
            refine va_iald hx hb hK hP 2 0 rfl rfl h_21 d_Md_element_132 ?_
            refine lv_iconst (v := 1) hx hb d_Md_element_133 (by decide) ?_
            refine lv_iadd hx hb d_Md_element_134 ?_
            obtain ⟨h_22, hw⟩ := hw
            obtain ⟨a_23, ea_23⟩ : ∃ z, z = upd grm (x_17 - 1).toNatClampNeg ((grm (x_17 - 1).toNatClampNeg) + 1) := ⟨_, rfl⟩
            replace hw := hw a_23 ea_23
            refine va_iast hx hb hK hP hD hS 2 0 rfl rfl h_22 d_Md_element_135 (fun H locs hP hD hS => ?_)
            rw [← ea_23] at hP hD
            have hP : va_P G.1 vwC [(h, .inr (2, [.int 0, .int vtp, .int vme, .int vta, .int vpl, .int vel, .ref xpg, .ref xli, .ref xty, .ref xen, .ref xtl, .int vsg, .int vus, .int x_17, .int x_20, .ref xst, .ref xmn, .ref xdr, .ref xhe, .ref xrs, .ref xrm, .ref xrd, .ref xhr, .int vwr, .int vch, .ref xki, .ref xin, .ref xpl, .ref xle, .ref xso, .ref xva, .ref xck, .ref xci, .ref xcp, .ref xcl, .ref xcs, .ref xcv])), (xrs, .inl (G.2.1 0, 24, .inl a_16)), (xrm, .inl (G.2.1 0, 24, .inl a_23)), (xrd, .inl (G.2.1 2, 24, .inl grd)), (xhr, .inl (G.2.1 0, 200, .inl a_19))] H := hP
            have hD : va_D A [(h, .inr (2, [.int 0, .int vtp, .int vme, .int vta, .int vpl, .int vel, .ref xpg, .ref xli, .ref xty, .ref xen, .ref xtl, .int vsg, .int vus, .int x_17, .int x_20, .ref xst, .ref xmn, .ref xdr, .ref xhe, .ref xrs, .ref xrm, .ref xrd, .ref xhr, .int vwr, .int vch, .ref xki, .ref xin, .ref xpl, .ref xle, .ref xso, .ref xva, .ref xck, .ref xci, .ref xcp, .ref xcl, .ref xcs, .ref xcv])), (xrs, .inl (G.2.1 0, 24, .inl a_16)), (xrm, .inl (G.2.1 0, 24, .inl a_23)), (xrd, .inl (G.2.1 2, 24, .inl grd)), (xhr, .inl (G.2.1 0, 200, .inl a_19))] := hD
            refine lv_aload_n hx hb d_Md_element_136 rfl (lv_at hl 1 rfl) ?_
            refine va_get (D := G.1) (ci := 2) (v := .int x_17) (C := R_Md) (T := T_Md) (N := 37) hx hb hts in_Md hown hK hP 0 rfl rfl 13 (by decide) (hts _ fl_Md_163) (fun _ h9 => h9) rfl d_Md_element_137 ?_
            refine lv_iconst (v := 1) hx hb d_Md_element_140 (by decide) ?_
            refine lv_isub hx hb d_Md_element_141 ?_
            exact W.iret (v := x_17 - 1) hx hb hr (fun t ht hW => ⟨⟨x_17 - 1, (0, x_17, x_20, a_16, a_23, a_19), rfl, hw, by have h9 := hP; rw [← ht] at h9; exact h9⟩, hS.F ht⟩) hS.2.2 d_Md_element_142
        · replace hw := hw.2 c_7
          refine lv_iconst (v := (-1)) hx hb d_Md_element_72 (by decide) ?_
          exact W.iret (v := (-1)) hx hb hr (fun t ht hW => ⟨⟨(-1), (0, vrw, vur, grs, grm, ghr), rfl, hw, by have h9 := hP; rw [← ht] at h9; exact h9⟩, hS.F ht⟩) hS.2.2 d_Md_element_73
  · replace hw := hw.2 c_1
    refine lv_aload_n hx hb d_Md_element_9 rfl (lv_at hl 0 rfl) ?_
    refine va_get (D := G.1) (ci := 2) (v := .int vrw) (C := R_Md) (T := T_Md) (N := 37) hx hb hts in_Md hown hK hP 0 rfl rfl 13 (by decide) (hts _ fl_Md_163) (fun _ h9 => h9) rfl d_Md_element_10 ?_
    refine lv_if_le (tgt := 34) hx hb d_Md_element_13 (by decide) (fun c_24 => ?_) (fun c_24 => ?_)
    · replace hw := hw.1 c_24
      refine lv_iconst (v := 0) hx hb d_Md_element_34 (by decide) ?_
      refine lv_goto (tgt := 52) hx hb d_Md_element_35 (by decide) ?_
      refine lv_istore_n (lv' := [(3, .int 0), (0, .ref h), (1, .int rf), (2, .int mo)]) hx hb d_Md_element_52 rfl hl (by decide) rfl (fun ls hl => ?_)
      refine lv_iload_n hx hb d_Md_element_53 rfl (lv_at hl 2 rfl) ?_
      refine lv_iconst (v := (-1)) hx hb d_Md_element_54 (by decide) ?_
      refine lv_icmp_lt (tgt := 72) hx hb d_Md_element_55 (by decide) (fun c_25 => ?_) (fun c_25 => ?_)
      · replace hw := hw.1 c_25
        refine lv_iconst (v := (-1)) hx hb d_Md_element_72 (by decide) ?_
        exact W.iret (v := (-1)) hx hb hr (fun t ht hW => ⟨⟨(-1), (0, vrw, vur, grs, grm, ghr), rfl, hw, by have h9 := hP; rw [← ht] at h9; exact h9⟩, hS.F ht⟩) hS.2.2 d_Md_element_73
      · replace hw := hw.2 c_25
        refine lv_iload_n hx hb d_Md_element_58 rfl (lv_at hl 0 rfl) ?_
        refine lv_if_eq (tgt := 72) hx hb d_Md_element_59 (by decide) (fun _ => ?_) (fun c_26 => absurd c_26 (by decide))
        refine lv_iconst (v := (-1)) hx hb d_Md_element_72 (by decide) ?_
        exact W.iret (v := (-1)) hx hb hr (fun t ht hW => ⟨⟨(-1), (0, vrw, vur, grs, grm, ghr), rfl, hw, by have h9 := hP; rw [← ht] at h9; exact h9⟩, hS.F ht⟩) hS.2.2 d_Md_element_73
    · replace hw := hw.2 c_24
      refine lv_aload_n hx hb d_Md_element_16 rfl (lv_at hl 0 rfl) ?_
      refine va_get (D := G.1) (ci := 2) (v := .ref xrd) (C := R_Md) (T := T_Md) (N := 37) hx hb hts in_Md hown hK hP 0 rfl rfl 21 (by decide) (hts _ fl_Md_51) (fun _ h9 => h9) rfl d_Md_element_17 ?_
      refine lv_aload_n hx hb d_Md_element_20 rfl (lv_at hl 0 rfl) ?_
      refine va_get (D := G.1) (ci := 2) (v := .int vrw) (C := R_Md) (T := T_Md) (N := 37) hx hb hts in_Md hown hK hP 0 rfl rfl 13 (by decide) (hts _ fl_Md_163) (fun _ h9 => h9) rfl d_Md_element_21 ?_
      refine lv_iconst (v := 1) hx hb d_Md_element_24 (by decide) ?_
      refine lv_isub hx hb d_Md_element_25 ?_
      obtain ⟨h_27, hw⟩ := hw
      refine va_zald hx hb hK hP 3 2 rfl rfl h_27 d_Md_element_26 ?_
      refine lv_if_ne (tgt := 34) hx hb d_Md_element_27 (by decide) (fun c_28 => ?_) (fun c_28 => ?_)
      · replace hw := hw.1 c_28
        refine lv_iconst (v := 0) hx hb d_Md_element_34 (by decide) ?_
        refine lv_goto (tgt := 52) hx hb d_Md_element_35 (by decide) ?_
        refine lv_istore_n (lv' := [(3, .int 0), (0, .ref h), (1, .int rf), (2, .int mo)]) hx hb d_Md_element_52 rfl hl (by decide) rfl (fun ls hl => ?_)
        refine lv_iload_n hx hb d_Md_element_53 rfl (lv_at hl 2 rfl) ?_
        refine lv_iconst (v := (-1)) hx hb d_Md_element_54 (by decide) ?_
        refine lv_icmp_lt (tgt := 72) hx hb d_Md_element_55 (by decide) (fun c_29 => ?_) (fun c_29 => ?_)
        · replace hw := hw.1 c_29
          refine lv_iconst (v := (-1)) hx hb d_Md_element_72 (by decide) ?_
          exact W.iret (v := (-1)) hx hb hr (fun t ht hW => ⟨⟨(-1), (0, vrw, vur, grs, grm, ghr), rfl, hw, by have h9 := hP; rw [← ht] at h9; exact h9⟩, hS.F ht⟩) hS.2.2 d_Md_element_73
        · replace hw := hw.2 c_29
          refine lv_iload_n hx hb d_Md_element_58 rfl (lv_at hl 0 rfl) ?_
          refine lv_if_eq (tgt := 72) hx hb d_Md_element_59 (by decide) (fun _ => ?_) (fun c_30 => absurd c_30 (by decide))
          refine lv_iconst (v := (-1)) hx hb d_Md_element_72 (by decide) ?_
          exact W.iret (v := (-1)) hx hb hr (fun t ht hW => ⟨⟨(-1), (0, vrw, vur, grs, grm, ghr), rfl, hw, by have h9 := hP; rw [← ht] at h9; exact h9⟩, hS.F ht⟩) hS.2.2 d_Md_element_73
      · replace hw := hw.2 c_28
        refine lv_iconst (v := 1) hx hb d_Md_element_30 (by decide) ?_
        refine lv_goto (tgt := 52) hx hb d_Md_element_31 (by decide) ?_
        refine lv_istore_n (lv' := [(3, .int 1), (0, .ref h), (1, .int rf), (2, .int mo)]) hx hb d_Md_element_52 rfl hl (by decide) rfl (fun ls hl => ?_)
        refine lv_iload_n hx hb d_Md_element_53 rfl (lv_at hl 2 rfl) ?_
        refine lv_iconst (v := (-1)) hx hb d_Md_element_54 (by decide) ?_
        refine lv_icmp_lt (tgt := 72) hx hb d_Md_element_55 (by decide) (fun c_31 => ?_) (fun c_31 => ?_)
        · replace hw := hw.1 c_31
          refine lv_iconst (v := (-1)) hx hb d_Md_element_72 (by decide) ?_
          exact W.iret (v := (-1)) hx hb hr (fun t ht hW => ⟨⟨(-1), (0, vrw, vur, grs, grm, ghr), rfl, hw, by have h9 := hP; rw [← ht] at h9; exact h9⟩, hS.F ht⟩) hS.2.2 d_Md_element_73
        · replace hw := hw.2 c_31
          refine lv_iload_n hx hb d_Md_element_58 rfl (lv_at hl 0 rfl) ?_
          refine lv_if_eq (tgt := 72) hx hb d_Md_element_59 (by decide) (fun c_32 => absurd c_32 (by decide)) (fun _ => ?_)
          refine lv_aload_n hx hb d_Md_element_62 rfl (lv_at hl 1 rfl) ?_
          refine va_get (D := G.1) (ci := 2) (v := .int vur) (C := R_Md) (T := T_Md) (N := 37) hx hb hts in_Md hown hK hP 0 rfl rfl 14 (by decide) (hts _ fl_Md_166) (fun _ h9 => h9) rfl d_Md_element_63 ?_
          refine lv_sipush (v := 200) hx hb d_Md_element_66 (by decide) ?_
          refine lv_icmp_ne (tgt := 74) hx hb d_Md_element_69 (by decide) (fun c_33 => ?_) (fun c_33 => ?_)
          · replace hw := hw.1 c_33
            refine lv_iload_n hx hb d_Md_element_74 rfl (lv_at hl 3 rfl) ?_
            refine lv_if_ne (tgt := 101) hx hb d_Md_element_75 (by decide) (fun c_34 => ?_) (fun c_34 => ?_)
            · replace hw := hw.1 c_34
              refine lv_aload_n hx hb d_Md_element_101 rfl (lv_at hl 1 rfl) ?_
              refine va_get (D := G.1) (ci := 2) (v := .ref xhr) (C := R_Md) (T := T_Md) (N := 37) hx hb hts in_Md hown hK hP 0 rfl rfl 22 (by decide) (hts _ fl_Md_54) (fun _ h9 => h9) rfl d_Md_element_102 ?_
              refine lv_aload_n hx hb d_Md_element_105 rfl (lv_at hl 1 rfl) ?_
              refine va_get (D := G.1) (ci := 2) (v := .int vur) (C := R_Md) (T := T_Md) (N := 37) hx hb hts in_Md hown hK hP 0 rfl rfl 14 (by decide) (hts _ fl_Md_166) (fun _ h9 => h9) rfl d_Md_element_106 ?_
              refine lv_iload_n hx hb d_Md_element_109 rfl (lv_at hl 2 rfl) ?_
              obtain ⟨h_35, hw⟩ := hw
              obtain ⟨a_36, ea_36⟩ : ∃ z, z = upd ghr vur.toNatClampNeg rf := ⟨_, rfl⟩
              replace hw := hw a_36 ea_36
              refine va_iast hx hb hK hP hD hS 4 0 rfl rfl h_35 d_Md_element_110 (fun H locs hP hD hS => ?_)
              rw [← ea_36] at hP hD
              have hP : va_P G.1 vwC [(h, .inr (2, [.int 0, .int vtp, .int vme, .int vta, .int vpl, .int vel, .ref xpg, .ref xli, .ref xty, .ref xen, .ref xtl, .int vsg, .int vus, .int vrw, .int vur, .ref xst, .ref xmn, .ref xdr, .ref xhe, .ref xrs, .ref xrm, .ref xrd, .ref xhr, .int vwr, .int vch, .ref xki, .ref xin, .ref xpl, .ref xle, .ref xso, .ref xva, .ref xck, .ref xci, .ref xcp, .ref xcl, .ref xcs, .ref xcv])), (xrs, .inl (G.2.1 0, 24, .inl grs)), (xrm, .inl (G.2.1 0, 24, .inl grm)), (xrd, .inl (G.2.1 2, 24, .inl grd)), (xhr, .inl (G.2.1 0, 200, .inl a_36))] H := hP
              have hD : va_D A [(h, .inr (2, [.int 0, .int vtp, .int vme, .int vta, .int vpl, .int vel, .ref xpg, .ref xli, .ref xty, .ref xen, .ref xtl, .int vsg, .int vus, .int vrw, .int vur, .ref xst, .ref xmn, .ref xdr, .ref xhe, .ref xrs, .ref xrm, .ref xrd, .ref xhr, .int vwr, .int vch, .ref xki, .ref xin, .ref xpl, .ref xle, .ref xso, .ref xva, .ref xck, .ref xci, .ref xcp, .ref xcl, .ref xcs, .ref xcv])), (xrs, .inl (G.2.1 0, 24, .inl grs)), (xrm, .inl (G.2.1 0, 24, .inl grm)), (xrd, .inl (G.2.1 2, 24, .inl grd)), (xhr, .inl (G.2.1 0, 200, .inl a_36))] := hD
              refine lv_aload_n hx hb d_Md_element_111 rfl (lv_at hl 1 rfl) ?_
              refine lv_dup hx hb d_Md_element_112 rfl ?_
              refine va_get (D := G.1) (ci := 2) (v := .int vur) (C := R_Md) (T := T_Md) (N := 37) hx hb hts in_Md hown hK hP 0 rfl rfl 14 (by decide) (hts _ fl_Md_166) (fun _ h9 => h9) rfl d_Md_element_113 ?_
              refine lv_iconst (v := 1) hx hb d_Md_element_116 (by decide) ?_
              refine lv_iadd hx hb d_Md_element_117 ?_
              refine lv_topi (fun x_37 ex_37 => ?_)
              replace hw := hw x_37 ex_37
              refine va_put (D := G.1) (ci := 2) (v := .int x_37) (ty := (.int)) (C := R_Md) (T := T_Md) (N := 37) hx hb hts in_Md ty_Md tk_Md nm_Md hown hK hP hD hS 0 rfl rfl 14 (by decide) (hts _ fl_Md_166) (fun _ h9 => h9) rfl (by decide +kernel) rfl rfl (Nat.le_of_ble_eq_true rfl) d_Md_element_118 (fun H locs hP hD hS => ?_)
              have hP : va_P G.1 vwC [(h, .inr (2, [.int 0, .int vtp, .int vme, .int vta, .int vpl, .int vel, .ref xpg, .ref xli, .ref xty, .ref xen, .ref xtl, .int vsg, .int vus, .int vrw, .int x_37, .ref xst, .ref xmn, .ref xdr, .ref xhe, .ref xrs, .ref xrm, .ref xrd, .ref xhr, .int vwr, .int vch, .ref xki, .ref xin, .ref xpl, .ref xle, .ref xso, .ref xva, .ref xck, .ref xci, .ref xcp, .ref xcl, .ref xcs, .ref xcv])), (xrs, .inl (G.2.1 0, 24, .inl grs)), (xrm, .inl (G.2.1 0, 24, .inl grm)), (xrd, .inl (G.2.1 2, 24, .inl grd)), (xhr, .inl (G.2.1 0, 200, .inl a_36))] H := hP
              have hD : va_D A [(h, .inr (2, [.int 0, .int vtp, .int vme, .int vta, .int vpl, .int vel, .ref xpg, .ref xli, .ref xty, .ref xen, .ref xtl, .int vsg, .int vus, .int vrw, .int x_37, .ref xst, .ref xmn, .ref xdr, .ref xhe, .ref xrs, .ref xrm, .ref xrd, .ref xhr, .int vwr, .int vch, .ref xki, .ref xin, .ref xpl, .ref xle, .ref xso, .ref xva, .ref xck, .ref xci, .ref xcp, .ref xcl, .ref xcs, .ref xcv])), (xrs, .inl (G.2.1 0, 24, .inl grs)), (xrm, .inl (G.2.1 0, 24, .inl grm)), (xrd, .inl (G.2.1 2, 24, .inl grd)), (xhr, .inl (G.2.1 0, 200, .inl a_36))] := hD
              refine lv_aload_n hx hb d_Md_element_121 rfl (lv_at hl 1 rfl) ?_
              refine va_get (D := G.1) (ci := 2) (v := .ref xrm) (C := R_Md) (T := T_Md) (N := 37) hx hb hts in_Md hown hK hP 0 rfl rfl 20 (by decide) (hts _ fl_Md_48) (fun _ h9 => h9) rfl d_Md_element_122 ?_
              refine lv_aload_n hx hb d_Md_element_125 rfl (lv_at hl 1 rfl) ?_
              refine va_get (D := G.1) (ci := 2) (v := .int vrw) (C := R_Md) (T := T_Md) (N := 37) hx hb hts in_Md hown hK hP 0 rfl rfl 13 (by decide) (hts _ fl_Md_163) (fun _ h9 => h9) rfl d_Md_element_126 ?_
              refine lv_iconst (v := 1) hx hb d_Md_element_129 (by decide) ?_
              refine lv_isub hx hb d_Md_element_130 ?_
              refine lv_dup2_11 hx hb d_Md_element_131 rfl rfl ?_
              obtain ⟨h_38, hw⟩ := hw
              refine va_iald hx hb hK hP 2 0 rfl rfl h_38 d_Md_element_132 ?_
              refine lv_iconst (v := 1) hx hb d_Md_element_133 (by decide) ?_
              refine lv_iadd hx hb d_Md_element_134 ?_
              obtain ⟨h_39, hw⟩ := hw
              obtain ⟨a_40, ea_40⟩ : ∃ z, z = upd grm (vrw - 1).toNatClampNeg ((grm (vrw - 1).toNatClampNeg) + 1) := ⟨_, rfl⟩
              replace hw := hw a_40 ea_40
              refine va_iast hx hb hK hP hD hS 2 0 rfl rfl h_39 d_Md_element_135 (fun H locs hP hD hS => ?_)
              rw [← ea_40] at hP hD
              have hP : va_P G.1 vwC [(h, .inr (2, [.int 0, .int vtp, .int vme, .int vta, .int vpl, .int vel, .ref xpg, .ref xli, .ref xty, .ref xen, .ref xtl, .int vsg, .int vus, .int vrw, .int x_37, .ref xst, .ref xmn, .ref xdr, .ref xhe, .ref xrs, .ref xrm, .ref xrd, .ref xhr, .int vwr, .int vch, .ref xki, .ref xin, .ref xpl, .ref xle, .ref xso, .ref xva, .ref xck, .ref xci, .ref xcp, .ref xcl, .ref xcs, .ref xcv])), (xrs, .inl (G.2.1 0, 24, .inl grs)), (xrm, .inl (G.2.1 0, 24, .inl a_40)), (xrd, .inl (G.2.1 2, 24, .inl grd)), (xhr, .inl (G.2.1 0, 200, .inl a_36))] H := hP
              have hD : va_D A [(h, .inr (2, [.int 0, .int vtp, .int vme, .int vta, .int vpl, .int vel, .ref xpg, .ref xli, .ref xty, .ref xen, .ref xtl, .int vsg, .int vus, .int vrw, .int x_37, .ref xst, .ref xmn, .ref xdr, .ref xhe, .ref xrs, .ref xrm, .ref xrd, .ref xhr, .int vwr, .int vch, .ref xki, .ref xin, .ref xpl, .ref xle, .ref xso, .ref xva, .ref xck, .ref xci, .ref xcp, .ref xcl, .ref xcs, .ref xcv])), (xrs, .inl (G.2.1 0, 24, .inl grs)), (xrm, .inl (G.2.1 0, 24, .inl a_40)), (xrd, .inl (G.2.1 2, 24, .inl grd)), (xhr, .inl (G.2.1 0, 200, .inl a_36))] := hD
              refine lv_aload_n hx hb d_Md_element_136 rfl (lv_at hl 1 rfl) ?_
              refine va_get (D := G.1) (ci := 2) (v := .int vrw) (C := R_Md) (T := T_Md) (N := 37) hx hb hts in_Md hown hK hP 0 rfl rfl 13 (by decide) (hts _ fl_Md_163) (fun _ h9 => h9) rfl d_Md_element_137 ?_
              refine lv_iconst (v := 1) hx hb d_Md_element_140 (by decide) ?_
              refine lv_isub hx hb d_Md_element_141 ?_
              exact W.iret (v := vrw - 1) hx hb hr (fun t ht hW => ⟨⟨vrw - 1, (0, vrw, x_37, grs, a_40, a_36), rfl, hw, by have h9 := hP; rw [← ht] at h9; exact h9⟩, hS.F ht⟩) hS.2.2 d_Md_element_142
            · replace hw := hw.2 c_34
              refine lv_aload_n hx hb d_Md_element_78 rfl (lv_at hl 1 rfl) ?_
              refine va_get (D := G.1) (ci := 2) (v := .ref xrs) (C := R_Md) (T := T_Md) (N := 37) hx hb hts in_Md hown hK hP 0 rfl rfl 19 (by decide) (hts _ fl_Md_45) (fun _ h9 => h9) rfl d_Md_element_79 ?_
              refine lv_aload_n hx hb d_Md_element_82 rfl (lv_at hl 1 rfl) ?_
              refine va_get (D := G.1) (ci := 2) (v := .int vrw) (C := R_Md) (T := T_Md) (N := 37) hx hb hts in_Md hown hK hP 0 rfl rfl 13 (by decide) (hts _ fl_Md_163) (fun _ h9 => h9) rfl d_Md_element_83 ?_
              refine lv_aload_n hx hb d_Md_element_86 rfl (lv_at hl 1 rfl) ?_
              refine va_get (D := G.1) (ci := 2) (v := .int vur) (C := R_Md) (T := T_Md) (N := 37) hx hb hts in_Md hown hK hP 0 rfl rfl 14 (by decide) (hts _ fl_Md_166) (fun _ h9 => h9) rfl d_Md_element_87 ?_
              obtain ⟨h_41, hw⟩ := hw
              obtain ⟨a_42, ea_42⟩ : ∃ z, z = upd grs vrw.toNatClampNeg vur := ⟨_, rfl⟩
              replace hw := hw a_42 ea_42
              refine va_iast hx hb hK hP hD hS 1 0 rfl rfl h_41 d_Md_element_90 (fun H locs hP hD hS => ?_)
              rw [← ea_42] at hP hD
              have hP : va_P G.1 vwC [(h, .inr (2, [.int 0, .int vtp, .int vme, .int vta, .int vpl, .int vel, .ref xpg, .ref xli, .ref xty, .ref xen, .ref xtl, .int vsg, .int vus, .int vrw, .int vur, .ref xst, .ref xmn, .ref xdr, .ref xhe, .ref xrs, .ref xrm, .ref xrd, .ref xhr, .int vwr, .int vch, .ref xki, .ref xin, .ref xpl, .ref xle, .ref xso, .ref xva, .ref xck, .ref xci, .ref xcp, .ref xcl, .ref xcs, .ref xcv])), (xrs, .inl (G.2.1 0, 24, .inl a_42)), (xrm, .inl (G.2.1 0, 24, .inl grm)), (xrd, .inl (G.2.1 2, 24, .inl grd)), (xhr, .inl (G.2.1 0, 200, .inl ghr))] H := hP
              have hD : va_D A [(h, .inr (2, [.int 0, .int vtp, .int vme, .int vta, .int vpl, .int vel, .ref xpg, .ref xli, .ref xty, .ref xen, .ref xtl, .int vsg, .int vus, .int vrw, .int vur, .ref xst, .ref xmn, .ref xdr, .ref xhe, .ref xrs, .ref xrm, .ref xrd, .ref xhr, .int vwr, .int vch, .ref xki, .ref xin, .ref xpl, .ref xle, .ref xso, .ref xva, .ref xck, .ref xci, .ref xcp, .ref xcl, .ref xcs, .ref xcv])), (xrs, .inl (G.2.1 0, 24, .inl a_42)), (xrm, .inl (G.2.1 0, 24, .inl grm)), (xrd, .inl (G.2.1 2, 24, .inl grd)), (xhr, .inl (G.2.1 0, 200, .inl ghr))] := hD
              refine lv_aload_n hx hb d_Md_element_91 rfl (lv_at hl 1 rfl) ?_
              refine lv_dup hx hb d_Md_element_92 rfl ?_
              refine va_get (D := G.1) (ci := 2) (v := .int vrw) (C := R_Md) (T := T_Md) (N := 37) hx hb hts in_Md hown hK hP 0 rfl rfl 13 (by decide) (hts _ fl_Md_163) (fun _ h9 => h9) rfl d_Md_element_93 ?_
              refine lv_iconst (v := 1) hx hb d_Md_element_96 (by decide) ?_
              refine lv_iadd hx hb d_Md_element_97 ?_
              refine lv_topi (fun x_43 ex_43 => ?_)
              replace hw := hw x_43 ex_43
              refine va_put (D := G.1) (ci := 2) (v := .int x_43) (ty := (.int)) (C := R_Md) (T := T_Md) (N := 37) hx hb hts in_Md ty_Md tk_Md nm_Md hown hK hP hD hS 0 rfl rfl 13 (by decide) (hts _ fl_Md_163) (fun _ h9 => h9) rfl (by decide +kernel) rfl rfl (Nat.le_of_ble_eq_true rfl) d_Md_element_98 (fun H locs hP hD hS => ?_)
              have hP : va_P G.1 vwC [(h, .inr (2, [.int 0, .int vtp, .int vme, .int vta, .int vpl, .int vel, .ref xpg, .ref xli, .ref xty, .ref xen, .ref xtl, .int vsg, .int vus, .int x_43, .int vur, .ref xst, .ref xmn, .ref xdr, .ref xhe, .ref xrs, .ref xrm, .ref xrd, .ref xhr, .int vwr, .int vch, .ref xki, .ref xin, .ref xpl, .ref xle, .ref xso, .ref xva, .ref xck, .ref xci, .ref xcp, .ref xcl, .ref xcs, .ref xcv])), (xrs, .inl (G.2.1 0, 24, .inl a_42)), (xrm, .inl (G.2.1 0, 24, .inl grm)), (xrd, .inl (G.2.1 2, 24, .inl grd)), (xhr, .inl (G.2.1 0, 200, .inl ghr))] H := hP
              have hD : va_D A [(h, .inr (2, [.int 0, .int vtp, .int vme, .int vta, .int vpl, .int vel, .ref xpg, .ref xli, .ref xty, .ref xen, .ref xtl, .int vsg, .int vus, .int x_43, .int vur, .ref xst, .ref xmn, .ref xdr, .ref xhe, .ref xrs, .ref xrm, .ref xrd, .ref xhr, .int vwr, .int vch, .ref xki, .ref xin, .ref xpl, .ref xle, .ref xso, .ref xva, .ref xck, .ref xci, .ref xcp, .ref xcl, .ref xcs, .ref xcv])), (xrs, .inl (G.2.1 0, 24, .inl a_42)), (xrm, .inl (G.2.1 0, 24, .inl grm)), (xrd, .inl (G.2.1 2, 24, .inl grd)), (xhr, .inl (G.2.1 0, 200, .inl ghr))] := hD
              refine lv_aload_n hx hb d_Md_element_101 rfl (lv_at hl 1 rfl) ?_
              refine va_get (D := G.1) (ci := 2) (v := .ref xhr) (C := R_Md) (T := T_Md) (N := 37) hx hb hts in_Md hown hK hP 0 rfl rfl 22 (by decide) (hts _ fl_Md_54) (fun _ h9 => h9) rfl d_Md_element_102 ?_
              refine lv_aload_n hx hb d_Md_element_105 rfl (lv_at hl 1 rfl) ?_
              refine va_get (D := G.1) (ci := 2) (v := .int vur) (C := R_Md) (T := T_Md) (N := 37) hx hb hts in_Md hown hK hP 0 rfl rfl 14 (by decide) (hts _ fl_Md_166) (fun _ h9 => h9) rfl d_Md_element_106 ?_
              refine lv_iload_n hx hb d_Md_element_109 rfl (lv_at hl 2 rfl) ?_
              obtain ⟨h_44, hw⟩ := hw
              obtain ⟨a_45, ea_45⟩ : ∃ z, z = upd ghr vur.toNatClampNeg rf := ⟨_, rfl⟩
              replace hw := hw a_45 ea_45
              refine va_iast hx hb hK hP hD hS 4 0 rfl rfl h_44 d_Md_element_110 (fun H locs hP hD hS => ?_)
              rw [← ea_45] at hP hD
              have hP : va_P G.1 vwC [(h, .inr (2, [.int 0, .int vtp, .int vme, .int vta, .int vpl, .int vel, .ref xpg, .ref xli, .ref xty, .ref xen, .ref xtl, .int vsg, .int vus, .int x_43, .int vur, .ref xst, .ref xmn, .ref xdr, .ref xhe, .ref xrs, .ref xrm, .ref xrd, .ref xhr, .int vwr, .int vch, .ref xki, .ref xin, .ref xpl, .ref xle, .ref xso, .ref xva, .ref xck, .ref xci, .ref xcp, .ref xcl, .ref xcs, .ref xcv])), (xrs, .inl (G.2.1 0, 24, .inl a_42)), (xrm, .inl (G.2.1 0, 24, .inl grm)), (xrd, .inl (G.2.1 2, 24, .inl grd)), (xhr, .inl (G.2.1 0, 200, .inl a_45))] H := hP
              have hD : va_D A [(h, .inr (2, [.int 0, .int vtp, .int vme, .int vta, .int vpl, .int vel, .ref xpg, .ref xli, .ref xty, .ref xen, .ref xtl, .int vsg, .int vus, .int x_43, .int vur, .ref xst, .ref xmn, .ref xdr, .ref xhe, .ref xrs, .ref xrm, .ref xrd, .ref xhr, .int vwr, .int vch, .ref xki, .ref xin, .ref xpl, .ref xle, .ref xso, .ref xva, .ref xck, .ref xci, .ref xcp, .ref xcl, .ref xcs, .ref xcv])), (xrs, .inl (G.2.1 0, 24, .inl a_42)), (xrm, .inl (G.2.1 0, 24, .inl grm)), (xrd, .inl (G.2.1 2, 24, .inl grd)), (xhr, .inl (G.2.1 0, 200, .inl a_45))] := hD
              refine lv_aload_n hx hb d_Md_element_111 rfl (lv_at hl 1 rfl) ?_
              refine lv_dup hx hb d_Md_element_112 rfl ?_
              refine va_get (D := G.1) (ci := 2) (v := .int vur) (C := R_Md) (T := T_Md) (N := 37) hx hb hts in_Md hown hK hP 0 rfl rfl 14 (by decide) (hts _ fl_Md_166) (fun _ h9 => h9) rfl d_Md_element_113 ?_
              refine lv_iconst (v := 1) hx hb d_Md_element_116 (by decide) ?_
              refine lv_iadd hx hb d_Md_element_117 ?_
              refine lv_topi (fun x_46 ex_46 => ?_)
              replace hw := hw x_46 ex_46
              refine va_put (D := G.1) (ci := 2) (v := .int x_46) (ty := (.int)) (C := R_Md) (T := T_Md) (N := 37) hx hb hts in_Md ty_Md tk_Md nm_Md hown hK hP hD hS 0 rfl rfl 14 (by decide) (hts _ fl_Md_166) (fun _ h9 => h9) rfl (by decide +kernel) rfl rfl (Nat.le_of_ble_eq_true rfl) d_Md_element_118 (fun H locs hP hD hS => ?_)
              have hP : va_P G.1 vwC [(h, .inr (2, [.int 0, .int vtp, .int vme, .int vta, .int vpl, .int vel, .ref xpg, .ref xli, .ref xty, .ref xen, .ref xtl, .int vsg, .int vus, .int x_43, .int x_46, .ref xst, .ref xmn, .ref xdr, .ref xhe, .ref xrs, .ref xrm, .ref xrd, .ref xhr, .int vwr, .int vch, .ref xki, .ref xin, .ref xpl, .ref xle, .ref xso, .ref xva, .ref xck, .ref xci, .ref xcp, .ref xcl, .ref xcs, .ref xcv])), (xrs, .inl (G.2.1 0, 24, .inl a_42)), (xrm, .inl (G.2.1 0, 24, .inl grm)), (xrd, .inl (G.2.1 2, 24, .inl grd)), (xhr, .inl (G.2.1 0, 200, .inl a_45))] H := hP
              have hD : va_D A [(h, .inr (2, [.int 0, .int vtp, .int vme, .int vta, .int vpl, .int vel, .ref xpg, .ref xli, .ref xty, .ref xen, .ref xtl, .int vsg, .int vus, .int x_43, .int x_46, .ref xst, .ref xmn, .ref xdr, .ref xhe, .ref xrs, .ref xrm, .ref xrd, .ref xhr, .int vwr, .int vch, .ref xki, .ref xin, .ref xpl, .ref xle, .ref xso, .ref xva, .ref xck, .ref xci, .ref xcp, .ref xcl, .ref xcs, .ref xcv])), (xrs, .inl (G.2.1 0, 24, .inl a_42)), (xrm, .inl (G.2.1 0, 24, .inl grm)), (xrd, .inl (G.2.1 2, 24, .inl grd)), (xhr, .inl (G.2.1 0, 200, .inl a_45))] := hD
              refine lv_aload_n hx hb d_Md_element_121 rfl (lv_at hl 1 rfl) ?_
              refine va_get (D := G.1) (ci := 2) (v := .ref xrm) (C := R_Md) (T := T_Md) (N := 37) hx hb hts in_Md hown hK hP 0 rfl rfl 20 (by decide) (hts _ fl_Md_48) (fun _ h9 => h9) rfl d_Md_element_122 ?_
              refine lv_aload_n hx hb d_Md_element_125 rfl (lv_at hl 1 rfl) ?_
              refine va_get (D := G.1) (ci := 2) (v := .int x_43) (C := R_Md) (T := T_Md) (N := 37) hx hb hts in_Md hown hK hP 0 rfl rfl 13 (by decide) (hts _ fl_Md_163) (fun _ h9 => h9) rfl d_Md_element_126 ?_
              refine lv_iconst (v := 1) hx hb d_Md_element_129 (by decide) ?_
              refine lv_isub hx hb d_Md_element_130 ?_
              refine lv_dup2_11 hx hb d_Md_element_131 rfl rfl ?_
              obtain ⟨h_47, hw⟩ := hw
              refine va_iald hx hb hK hP 2 0 rfl rfl h_47 d_Md_element_132 ?_
              refine lv_iconst (v := 1) hx hb d_Md_element_133 (by decide) ?_
              refine lv_iadd hx hb d_Md_element_134 ?_
              obtain ⟨h_48, hw⟩ := hw
              obtain ⟨a_49, ea_49⟩ : ∃ z, z = upd grm (x_43 - 1).toNatClampNeg ((grm (x_43 - 1).toNatClampNeg) + 1) := ⟨_, rfl⟩
              replace hw := hw a_49 ea_49
              refine va_iast hx hb hK hP hD hS 2 0 rfl rfl h_48 d_Md_element_135 (fun H locs hP hD hS => ?_)
              rw [← ea_49] at hP hD
              have hP : va_P G.1 vwC [(h, .inr (2, [.int 0, .int vtp, .int vme, .int vta, .int vpl, .int vel, .ref xpg, .ref xli, .ref xty, .ref xen, .ref xtl, .int vsg, .int vus, .int x_43, .int x_46, .ref xst, .ref xmn, .ref xdr, .ref xhe, .ref xrs, .ref xrm, .ref xrd, .ref xhr, .int vwr, .int vch, .ref xki, .ref xin, .ref xpl, .ref xle, .ref xso, .ref xva, .ref xck, .ref xci, .ref xcp, .ref xcl, .ref xcs, .ref xcv])), (xrs, .inl (G.2.1 0, 24, .inl a_42)), (xrm, .inl (G.2.1 0, 24, .inl a_49)), (xrd, .inl (G.2.1 2, 24, .inl grd)), (xhr, .inl (G.2.1 0, 200, .inl a_45))] H := hP
              have hD : va_D A [(h, .inr (2, [.int 0, .int vtp, .int vme, .int vta, .int vpl, .int vel, .ref xpg, .ref xli, .ref xty, .ref xen, .ref xtl, .int vsg, .int vus, .int x_43, .int x_46, .ref xst, .ref xmn, .ref xdr, .ref xhe, .ref xrs, .ref xrm, .ref xrd, .ref xhr, .int vwr, .int vch, .ref xki, .ref xin, .ref xpl, .ref xle, .ref xso, .ref xva, .ref xck, .ref xci, .ref xcp, .ref xcl, .ref xcs, .ref xcv])), (xrs, .inl (G.2.1 0, 24, .inl a_42)), (xrm, .inl (G.2.1 0, 24, .inl a_49)), (xrd, .inl (G.2.1 2, 24, .inl grd)), (xhr, .inl (G.2.1 0, 200, .inl a_45))] := hD
              refine lv_aload_n hx hb d_Md_element_136 rfl (lv_at hl 1 rfl) ?_
              refine va_get (D := G.1) (ci := 2) (v := .int x_43) (C := R_Md) (T := T_Md) (N := 37) hx hb hts in_Md hown hK hP 0 rfl rfl 13 (by decide) (hts _ fl_Md_163) (fun _ h9 => h9) rfl d_Md_element_137 ?_
              refine lv_iconst (v := 1) hx hb d_Md_element_140 (by decide) ?_
              refine lv_isub hx hb d_Md_element_141 ?_
              exact W.iret (v := x_43 - 1) hx hb hr (fun t ht hW => ⟨⟨x_43 - 1, (0, x_43, x_46, a_42, a_49, a_45), rfl, hw, by have h9 := hP; rw [← ht] at h9; exact h9⟩, hS.F ht⟩) hS.2.2 d_Md_element_142
          · replace hw := hw.2 c_33
            refine lv_iconst (v := (-1)) hx hb d_Md_element_72 (by decide) ?_
            exact W.iret (v := (-1)) hx hb hr (fun t ht hW => ⟨⟨(-1), (0, vrw, vur, grs, grm, ghr), rfl, hw, by have h9 := hP; rw [← ht] at h9; exact h9⟩, hS.F ht⟩) hS.2.2 d_Md_element_73
def wp_Md_drop (post : (Int32 × (Nat → Int32) × (Nat → Int32)) → Prop) (vth : Int32) (vtp : Int32) (vme : Int32) (vta : Int32) (vpl : Int32) (vel : Int32) (vsg : Int32) (vus : Int32) (vrw : Int32) (vur : Int32) (vwr : Int32) (vch : Int32) (gdr : Nat → Int32) (grd : Nat → Int32) (sg : Int32) (rf : Int32) : Prop := ((sg < 0 → (post (1, gdr, grd))) ∧ (¬ sg < 0 → (((rf = 0 → (((vsg ≤ sg → (post (1, gdr, grd))) ∧ (¬ vsg ≤ sg → (((rf = 0 → (((¬ rf = 0 → (post (0, gdr, grd))) ∧ (rf = 0 → ((vp_in sg 24) ∧ ∀ a_16 : Nat → Int32, a_16 = upd gdr sg.toNatClampNeg (vp_nar .boolean 1) → (post (0, a_16, grd))))))) ∧ (¬ rf = 0 → ((vp_in sg 24) ∧ ∀ a_18 : Nat → Int32, a_18 = upd grd sg.toNatClampNeg (vp_nar .boolean 1) → (((¬ rf = 0 → (post (0, gdr, a_18))) ∧ (rf = 0 → ((vp_in sg 24) ∧ ∀ a_22 : Nat → Int32, a_22 = upd gdr sg.toNatClampNeg (vp_nar .boolean 1) → (post (0, a_22, a_18)))))))))))))) ∧ (¬ rf = 0 → (((vrw ≤ sg → (post (1, gdr, grd))) ∧ (¬ vrw ≤ sg → (((rf = 0 → (((¬ rf = 0 → (post (0, gdr, grd))) ∧ (rf = 0 → ((vp_in sg 24) ∧ ∀ a_33 : Nat → Int32, a_33 = upd gdr sg.toNatClampNeg (vp_nar .boolean 1) → (post (0, a_33, grd))))))) ∧ (¬ rf = 0 → ((vp_in sg 24) ∧ ∀ a_35 : Nat → Int32, a_35 = upd grd sg.toNatClampNeg (vp_nar .boolean 1) → (((¬ rf = 0 → (post (0, gdr, a_35))) ∧ (rf = 0 → ((vp_in sg 24) ∧ ∀ a_39 : Nat → Int32, a_39 = upd gdr sg.toNatClampNeg (vp_nar .boolean 1) → (post (0, a_39, a_35))))))))))))))))))
set_option maxHeartbeats 4000000 in
set_option maxRecDepth 100000 in
theorem t_Md_drop (l : Launch) (G : cxT) (h : Nat) (xpg : Nat) (xli : Nat) (xty : Nat) (xen : Nat) (xtl : Nat) (xst : Nat) (xmn : Nat) (xdr : Nat) (xhe : Nat) (xrs : Nat) (xrm : Nat) (xrd : Nat) (xhr : Nat) (xki : Nat) (xin : Nat) (xpl : Nat) (xle : Nat) (xso : Nat) (xva : Nat) (xck : Nat) (xci : Nat) (xcp : Nat) (xcl : Nat) (xcs : Nat) (xcv : Nat) (vth : Int32) (vtp : Int32) (vme : Int32) (vta : Int32) (vpl : Int32) (vel : Int32) (vsg : Int32) (vus : Int32) (vrw : Int32) (vur : Int32) (vwr : Int32) (vch : Int32) (gdr : Nat → Int32) (grd : Nat → Int32) (sg : Int32) (rf : Int32) (sz : Nat) (post : (Int32 × (Nat → Int32) × (Nat → Int32)) → Prop) (hw : wp_Md_drop post vth vtp vme vta vpl vel vsg vus vrw vur vwr vch gdr grd sg rf) : Met l y_Md_drop [.code y_Md_drop b_Md_drop 4 none] ({ frames := 4, cells := 0, slots := 0, locals := 140 } : Room) (cm G [.ref h, .int sg, .int rf] [(h, .inr (2, [.int vth, .int vtp, .int vme, .int vta, .int vpl, .int vel, .ref xpg, .ref xli, .ref xty, .ref xen, .ref xtl, .int vsg, .int vus, .int vrw, .int vur, .ref xst, .ref xmn, .ref xdr, .ref xhe, .ref xrs, .ref xrm, .ref xrd, .ref xhr, .int vwr, .int vch, .ref xki, .ref xin, .ref xpl, .ref xle, .ref xso, .ref xva, .ref xck, .ref xci, .ref xcp, .ref xcl, .ref xcs, .ref xcv])), (xdr, .inl (G.2.1 2, 24, .inl gdr)), (xrd, .inl (G.2.1 2, 24, .inl grd))] sz) (va_Qv post (fun u t => va_P G.1 vwC [(h, .inr (2, [.int u.1, .int vtp, .int vme, .int vta, .int vpl, .int vel, .ref xpg, .ref xli, .ref xty, .ref xen, .ref xtl, .int vsg, .int vus, .int vrw, .int vur, .ref xst, .ref xmn, .ref xdr, .ref xhe, .ref xrs, .ref xrm, .ref xrd, .ref xhr, .int vwr, .int vch, .ref xki, .ref xin, .ref xpl, .ref xle, .ref xso, .ref xva, .ref xck, .ref xci, .ref xcp, .ref xcl, .ref xcs, .ref xcv])), (xdr, .inl (G.2.1 2, 24, .inl u.2.1)), (xrd, .inl (G.2.1 2, 24, .inl u.2.2))] t.heap) (va_A [(h, .inr (2, [.int vth, .int vtp, .int vme, .int vta, .int vpl, .int vel, .ref xpg, .ref xli, .ref xty, .ref xen, .ref xtl, .int vsg, .int vus, .int vrw, .int vur, .ref xst, .ref xmn, .ref xdr, .ref xhe, .ref xrs, .ref xrm, .ref xrd, .ref xhr, .int vwr, .int vch, .ref xki, .ref xin, .ref xpl, .ref xle, .ref xso, .ref xva, .ref xck, .ref xci, .ref xcp, .ref xcl, .ref xcs, .ref xcv])), (xdr, .inl (G.2.1 2, 24, .inl gdr)), (xrd, .inl (G.2.1 2, 24, .inl grd))] sz)) 0 0 (va_A [(h, .inr (2, [.int vth, .int vtp, .int vme, .int vta, .int vpl, .int vel, .ref xpg, .ref xli, .ref xty, .ref xen, .ref xtl, .int vsg, .int vus, .int vrw, .int vur, .ref xst, .ref xmn, .ref xdr, .ref xhe, .ref xrs, .ref xrm, .ref xrd, .ref xhr, .int vwr, .int vch, .ref xki, .ref xin, .ref xpl, .ref xle, .ref xso, .ref xva, .ref xck, .ref xci, .ref xcp, .ref xcl, .ref xcs, .ref xcv])), (xdr, .inl (G.2.1 2, 24, .inl gdr)), (xrd, .inl (G.2.1 2, 24, .inl grd))] sz) := by
  refine Met.ofW (cc := b_Md_drop) (maxL := 4) (ret := none) (by decide +kernel) rfl ?_
  intro p e s m args below meth c s₁ B hml hv
  obtain ⟨rfl, hsz, hcx, hP, hD0⟩ := hv
  have hx := B.exec
  have hb := B.bytes
  have hr := B.returns
  have hlocks := B.notSynchronized
  have hown : s.vm.findClass R_Md = some m.cls := findClass_of_methodNamed B.named
  subst hsz
  have hD := hD0.self (sz := s.heap.size)
  generalize hAe : va_A [(h, .inr (2, [.int vth, .int vtp, .int vme, .int vta, .int vpl, .int vel, .ref xpg, .ref xli, .ref xty, .ref xen, .ref xtl, .int vsg, .int vus, .int vrw, .int vur, .ref xst, .ref xmn, .ref xdr, .ref xhe, .ref xrs, .ref xrm, .ref xrd, .ref xhr, .int vwr, .int vch, .ref xki, .ref xin, .ref xpl, .ref xle, .ref xso, .ref xva, .ref xck, .ref xci, .ref xcp, .ref xcl, .ref xcs, .ref xcv])), (xdr, .inl (G.2.1 2, 24, .inl gdr)), (xrd, .inl (G.2.1 2, 24, .inl grd))] s.heap.size = A at hD hcx ⊢
  have hA : ∀ q : Nat, s.heap.size ≤ q → A q := fun q h => by rw [← hAe]; exact Or.inr h
  have hS : va_S A s.heap s.heap [] := va_S.rf
  have hts := hcx.now.1 [.ref h, .int sg, .int rf].toArray
  have hK := hcx.now.2.1
  have hl := lv_entry ([.ref h, .int sg, .int rf]) (n := 4) (Nat.le_of_ble_eq_true rfl)
  rw [lg_entry_eq]
  generalize (lg_sl ([.ref h, .int sg, .int rf]) ++ List.replicate (4 - (lg_sl ([.ref h, .int sg, .int rf])).length) Slot.unset).toArray = ls at hl ⊢
  have hl : lv_has ls 4 [(0, .ref h), (1, .int sg), (2, .int rf)] := hl
  unfold wp_Md_drop at hw
  refine lv_iload_n hx hb d_Md_drop_0 rfl (lv_at hl 1 rfl) ?_
  refine lv_if_lt (tgt := 27) hx hb d_Md_drop_1 (by decide) (fun c_1 => ?_) (fun c_1 => ?_)
  · replace hw := hw.1 c_1
    refine lv_iconst (v := 0) hx hb d_Md_drop_27 (by decide) ?_
    refine lv_istore_n (lv' := [(3, .int 0), (0, .ref h), (1, .int sg), (2, .int rf)]) hx hb d_Md_drop_28 rfl hl (by decide) rfl (fun ls hl => ?_)
    refine lv_aload_n hx hb d_Md_drop_29 rfl (lv_at hl 1 rfl) ?_
    refine lv_iload_n hx hb d_Md_drop_30 rfl (lv_at hl 0 rfl) ?_
    refine lv_if_eq (tgt := 38) hx hb d_Md_drop_31 (by decide) (fun _ => ?_) (fun c_2 => absurd c_2 (by decide))
    refine lv_iconst (v := 1) hx hb d_Md_drop_38 (by decide) ?_
    refine va_put (D := G.1) (ci := 2) (v := .int 1) (ty := (.int)) (C := R_Md) (T := T_Md) (N := 37) hx hb hts in_Md ty_Md tk_Md nm_Md hown hK hP hD hS 0 rfl rfl 0 (by decide) (hts _ fl_Md_94) (fun _ h9 => h9) rfl (by decide +kernel) rfl rfl (Nat.le_of_ble_eq_true rfl) d_Md_drop_39 (fun H locs hP hD hS => ?_)
    have hP : va_P G.1 vwC [(h, .inr (2, [.int 1, .int vtp, .int vme, .int vta, .int vpl, .int vel, .ref xpg, .ref xli, .ref xty, .ref xen, .ref xtl, .int vsg, .int vus, .int vrw, .int vur, .ref xst, .ref xmn, .ref xdr, .ref xhe, .ref xrs, .ref xrm, .ref xrd, .ref xhr, .int vwr, .int vch, .ref xki, .ref xin, .ref xpl, .ref xle, .ref xso, .ref xva, .ref xck, .ref xci, .ref xcp, .ref xcl, .ref xcs, .ref xcv])), (xdr, .inl (G.2.1 2, 24, .inl gdr)), (xrd, .inl (G.2.1 2, 24, .inl grd))] H := hP
    have hD : va_D A [(h, .inr (2, [.int 1, .int vtp, .int vme, .int vta, .int vpl, .int vel, .ref xpg, .ref xli, .ref xty, .ref xen, .ref xtl, .int vsg, .int vus, .int vrw, .int vur, .ref xst, .ref xmn, .ref xdr, .ref xhe, .ref xrs, .ref xrm, .ref xrd, .ref xhr, .int vwr, .int vch, .ref xki, .ref xin, .ref xpl, .ref xle, .ref xso, .ref xva, .ref xck, .ref xci, .ref xcp, .ref xcl, .ref xcs, .ref xcv])), (xdr, .inl (G.2.1 2, 24, .inl gdr)), (xrd, .inl (G.2.1 2, 24, .inl grd))] := hD
    refine lv_iload_n hx hb d_Md_drop_42 rfl (lv_at hl 0 rfl) ?_
    refine lv_if_eq (tgt := 57) hx hb d_Md_drop_43 (by decide) (fun _ => ?_) (fun c_3 => absurd c_3 (by decide))
    refine lv_iload_n hx hb d_Md_drop_57 rfl (lv_at hl 0 rfl) ?_
    refine lv_if_eq (tgt := 72) hx hb d_Md_drop_58 (by decide) (fun _ => ?_) (fun c_4 => absurd c_4 (by decide))
    exact W.vret hx hb hr (fun t ht hW => ⟨⟨(1, gdr, grd), rfl, hw, by have h9 := hP; rw [← ht] at h9; exact h9⟩, hS.F ht⟩) hS.2.2 d_Md_drop_72
  · replace hw := hw.2 c_1
    refine lv_iload_n hx hb d_Md_drop_4 rfl (lv_at hl 1 rfl) ?_
    refine lv_iload_n hx hb d_Md_drop_5 rfl (lv_at hl 2 rfl) ?_
    refine lv_if_eq (tgt := 16) hx hb d_Md_drop_6 (by decide) (fun c_5 => ?_) (fun c_5 => ?_)
    · replace hw := hw.1 c_5
      refine lv_aload_n hx hb d_Md_drop_16 rfl (lv_at hl 0 rfl) ?_
      refine va_get (D := G.1) (ci := 2) (v := .int vsg) (C := R_Md) (T := T_Md) (N := 37) hx hb hts in_Md hown hK hP 0 rfl rfl 11 (by decide) (hts _ fl_Md_157) (fun _ h9 => h9) rfl d_Md_drop_17 ?_
      refine lv_icmp_ge (tgt := 27) hx hb d_Md_drop_20 (by decide) (fun c_6 => ?_) (fun c_6 => ?_)
      · replace hw := hw.1 c_6
        refine lv_iconst (v := 0) hx hb d_Md_drop_27 (by decide) ?_
        refine lv_istore_n (lv' := [(3, .int 0), (0, .ref h), (1, .int sg), (2, .int rf)]) hx hb d_Md_drop_28 rfl hl (by decide) rfl (fun ls hl => ?_)
        refine lv_aload_n hx hb d_Md_drop_29 rfl (lv_at hl 1 rfl) ?_
        refine lv_iload_n hx hb d_Md_drop_30 rfl (lv_at hl 0 rfl) ?_
        refine lv_if_eq (tgt := 38) hx hb d_Md_drop_31 (by decide) (fun _ => ?_) (fun c_7 => absurd c_7 (by decide))
        refine lv_iconst (v := 1) hx hb d_Md_drop_38 (by decide) ?_
        refine va_put (D := G.1) (ci := 2) (v := .int 1) (ty := (.int)) (C := R_Md) (T := T_Md) (N := 37) hx hb hts in_Md ty_Md tk_Md nm_Md hown hK hP hD hS 0 rfl rfl 0 (by decide) (hts _ fl_Md_94) (fun _ h9 => h9) rfl (by decide +kernel) rfl rfl (Nat.le_of_ble_eq_true rfl) d_Md_drop_39 (fun H locs hP hD hS => ?_)
        have hP : va_P G.1 vwC [(h, .inr (2, [.int 1, .int vtp, .int vme, .int vta, .int vpl, .int vel, .ref xpg, .ref xli, .ref xty, .ref xen, .ref xtl, .int vsg, .int vus, .int vrw, .int vur, .ref xst, .ref xmn, .ref xdr, .ref xhe, .ref xrs, .ref xrm, .ref xrd, .ref xhr, .int vwr, .int vch, .ref xki, .ref xin, .ref xpl, .ref xle, .ref xso, .ref xva, .ref xck, .ref xci, .ref xcp, .ref xcl, .ref xcs, .ref xcv])), (xdr, .inl (G.2.1 2, 24, .inl gdr)), (xrd, .inl (G.2.1 2, 24, .inl grd))] H := hP
        have hD : va_D A [(h, .inr (2, [.int 1, .int vtp, .int vme, .int vta, .int vpl, .int vel, .ref xpg, .ref xli, .ref xty, .ref xen, .ref xtl, .int vsg, .int vus, .int vrw, .int vur, .ref xst, .ref xmn, .ref xdr, .ref xhe, .ref xrs, .ref xrm, .ref xrd, .ref xhr, .int vwr, .int vch, .ref xki, .ref xin, .ref xpl, .ref xle, .ref xso, .ref xva, .ref xck, .ref xci, .ref xcp, .ref xcl, .ref xcs, .ref xcv])), (xdr, .inl (G.2.1 2, 24, .inl gdr)), (xrd, .inl (G.2.1 2, 24, .inl grd))] := hD
        refine lv_iload_n hx hb d_Md_drop_42 rfl (lv_at hl 0 rfl) ?_
        refine lv_if_eq (tgt := 57) hx hb d_Md_drop_43 (by decide) (fun _ => ?_) (fun c_8 => absurd c_8 (by decide))
        refine lv_iload_n hx hb d_Md_drop_57 rfl (lv_at hl 0 rfl) ?_
        refine lv_if_eq (tgt := 72) hx hb d_Md_drop_58 (by decide) (fun _ => ?_) (fun c_9 => absurd c_9 (by decide))
        exact W.vret hx hb hr (fun t ht hW => ⟨⟨(1, gdr, grd), rfl, hw, by have h9 := hP; rw [← ht] at h9; exact h9⟩, hS.F ht⟩) hS.2.2 d_Md_drop_72
      · replace hw := hw.2 c_6
        refine lv_iconst (v := 1) hx hb d_Md_drop_23 (by decide) ?_
        refine lv_goto (tgt := 28) hx hb d_Md_drop_24 (by decide) ?_
        refine lv_istore_n (lv' := [(3, .int 1), (0, .ref h), (1, .int sg), (2, .int rf)]) hx hb d_Md_drop_28 rfl hl (by decide) rfl (fun ls hl => ?_)
        refine lv_aload_n hx hb d_Md_drop_29 rfl (lv_at hl 1 rfl) ?_
        refine lv_iload_n hx hb d_Md_drop_30 rfl (lv_at hl 0 rfl) ?_
        refine lv_if_eq (tgt := 38) hx hb d_Md_drop_31 (by decide) (fun c_10 => absurd c_10 (by decide)) (fun _ => ?_)
        refine lv_iconst (v := 0) hx hb d_Md_drop_34 (by decide) ?_
        refine lv_goto (tgt := 39) hx hb d_Md_drop_35 (by decide) ?_
        refine va_put (D := G.1) (ci := 2) (v := .int 0) (ty := (.int)) (C := R_Md) (T := T_Md) (N := 37) hx hb hts in_Md ty_Md tk_Md nm_Md hown hK hP hD hS 0 rfl rfl 0 (by decide) (hts _ fl_Md_94) (fun _ h9 => h9) rfl (by decide +kernel) rfl rfl (Nat.le_of_ble_eq_true rfl) d_Md_drop_39 (fun H locs hP hD hS => ?_)
        have hP : va_P G.1 vwC [(h, .inr (2, [.int 0, .int vtp, .int vme, .int vta, .int vpl, .int vel, .ref xpg, .ref xli, .ref xty, .ref xen, .ref xtl, .int vsg, .int vus, .int vrw, .int vur, .ref xst, .ref xmn, .ref xdr, .ref xhe, .ref xrs, .ref xrm, .ref xrd, .ref xhr, .int vwr, .int vch, .ref xki, .ref xin, .ref xpl, .ref xle, .ref xso, .ref xva, .ref xck, .ref xci, .ref xcp, .ref xcl, .ref xcs, .ref xcv])), (xdr, .inl (G.2.1 2, 24, .inl gdr)), (xrd, .inl (G.2.1 2, 24, .inl grd))] H := hP
        have hD : va_D A [(h, .inr (2, [.int 0, .int vtp, .int vme, .int vta, .int vpl, .int vel, .ref xpg, .ref xli, .ref xty, .ref xen, .ref xtl, .int vsg, .int vus, .int vrw, .int vur, .ref xst, .ref xmn, .ref xdr, .ref xhe, .ref xrs, .ref xrm, .ref xrd, .ref xhr, .int vwr, .int vch, .ref xki, .ref xin, .ref xpl, .ref xle, .ref xso, .ref xva, .ref xck, .ref xci, .ref xcp, .ref xcl, .ref xcs, .ref xcv])), (xdr, .inl (G.2.1 2, 24, .inl gdr)), (xrd, .inl (G.2.1 2, 24, .inl grd))] := hD
        refine lv_iload_n hx hb d_Md_drop_42 rfl (lv_at hl 0 rfl) ?_
        refine lv_if_eq (tgt := 57) hx hb d_Md_drop_43 (by decide) (fun c_11 => absurd c_11 (by decide)) (fun _ => ?_)
        refine lv_iload_n hx hb d_Md_drop_46 rfl (lv_at hl 3 rfl) ?_
        refine lv_if_eq (tgt := 57) hx hb d_Md_drop_47 (by decide) (fun c_12 => ?_) (fun c_12 => ?_)
        · replace hw := hw.1 c_12
          refine lv_iload_n hx hb d_Md_drop_57 rfl (lv_at hl 0 rfl) ?_
          refine lv_if_eq (tgt := 72) hx hb d_Md_drop_58 (by decide) (fun c_13 => absurd c_13 (by decide)) (fun _ => ?_)
          refine lv_iload_n hx hb d_Md_drop_61 rfl (lv_at hl 3 rfl) ?_
          refine lv_if_ne (tgt := 72) hx hb d_Md_drop_62 (by decide) (fun c_14 => ?_) (fun c_14 => ?_)
          · replace hw := hw.1 c_14
            exact W.vret hx hb hr (fun t ht hW => ⟨⟨(0, gdr, grd), rfl, hw, by have h9 := hP; rw [← ht] at h9; exact h9⟩, hS.F ht⟩) hS.2.2 d_Md_drop_72
          · replace hw := hw.2 c_14
            refine lv_aload_n hx hb d_Md_drop_65 rfl (lv_at hl 1 rfl) ?_
            refine va_get (D := G.1) (ci := 2) (v := .ref xdr) (C := R_Md) (T := T_Md) (N := 37) hx hb hts in_Md hown hK hP 0 rfl rfl 17 (by decide) (hts _ fl_Md_38) (fun _ h9 => h9) rfl d_Md_drop_66 ?_
            refine lv_iload_n hx hb d_Md_drop_69 rfl (lv_at hl 2 rfl) ?_
            refine lv_iconst (v := 1) hx hb d_Md_drop_70 (by decide) ?_
            obtain ⟨h_15, hw⟩ := hw
            obtain ⟨a_16, ea_16⟩ : ∃ z, z = upd gdr sg.toNatClampNeg (vp_nar .boolean 1) := ⟨_, rfl⟩
            replace hw := hw a_16 ea_16
            refine va_zast hx hb hK hP hD hS 1 2 rfl rfl h_15 d_Md_drop_71 (fun H locs hP hD hS => ?_)
            rw [← ea_16] at hP hD
            have hP : va_P G.1 vwC [(h, .inr (2, [.int 0, .int vtp, .int vme, .int vta, .int vpl, .int vel, .ref xpg, .ref xli, .ref xty, .ref xen, .ref xtl, .int vsg, .int vus, .int vrw, .int vur, .ref xst, .ref xmn, .ref xdr, .ref xhe, .ref xrs, .ref xrm, .ref xrd, .ref xhr, .int vwr, .int vch, .ref xki, .ref xin, .ref xpl, .ref xle, .ref xso, .ref xva, .ref xck, .ref xci, .ref xcp, .ref xcl, .ref xcs, .ref xcv])), (xdr, .inl (G.2.1 2, 24, .inl a_16)), (xrd, .inl (G.2.1 2, 24, .inl grd))] H := hP
            have hD : va_D A [(h, .inr (2, [.int 0, .int vtp, .int vme, .int vta, .int vpl, .int vel, .ref xpg, .ref xli, .ref xty, .ref xen, .ref xtl, .int vsg, .int vus, .int vrw, .int vur, .ref xst, .ref xmn, .ref xdr, .ref xhe, .ref xrs, .ref xrm, .ref xrd, .ref xhr, .int vwr, .int vch, .ref xki, .ref xin, .ref xpl, .ref xle, .ref xso, .ref xva, .ref xck, .ref xci, .ref xcp, .ref xcl, .ref xcs, .ref xcv])), (xdr, .inl (G.2.1 2, 24, .inl a_16)), (xrd, .inl (G.2.1 2, 24, .inl grd))] := hD
            exact W.vret hx hb hr (fun t ht hW => ⟨⟨(0, a_16, grd), rfl, hw, by have h9 := hP; rw [← ht] at h9; exact h9⟩, hS.F ht⟩) hS.2.2 d_Md_drop_72
        · replace hw := hw.2 c_12
          refine lv_aload_n hx hb d_Md_drop_50 rfl (lv_at hl 1 rfl) ?_
          refine va_get (D := G.1) (ci := 2) (v := .ref xrd) (C := R_Md) (T := T_Md) (N := 37) hx hb hts in_Md hown hK hP 0 rfl rfl 21 (by decide) (hts _ fl_Md_51) (fun _ h9 => h9) rfl d_Md_drop_51 ?_
          refine lv_iload_n hx hb d_Md_drop_54 rfl (lv_at hl 2 rfl) ?_
          refine lv_iconst (v := 1) hx hb d_Md_drop_55 (by decide) ?_
          obtain ⟨h_17, hw⟩ := hw
          obtain ⟨a_18, ea_18⟩ : ∃ z, z = upd grd sg.toNatClampNeg (vp_nar .boolean 1) := ⟨_, rfl⟩
          replace hw := hw a_18 ea_18
          refine va_zast hx hb hK hP hD hS 2 2 rfl rfl h_17 d_Md_drop_56 (fun H locs hP hD hS => ?_)
          rw [← ea_18] at hP hD
          have hP : va_P G.1 vwC [(h, .inr (2, [.int 0, .int vtp, .int vme, .int vta, .int vpl, .int vel, .ref xpg, .ref xli, .ref xty, .ref xen, .ref xtl, .int vsg, .int vus, .int vrw, .int vur, .ref xst, .ref xmn, .ref xdr, .ref xhe, .ref xrs, .ref xrm, .ref xrd, .ref xhr, .int vwr, .int vch, .ref xki, .ref xin, .ref xpl, .ref xle, .ref xso, .ref xva, .ref xck, .ref xci, .ref xcp, .ref xcl, .ref xcs, .ref xcv])), (xdr, .inl (G.2.1 2, 24, .inl gdr)), (xrd, .inl (G.2.1 2, 24, .inl a_18))] H := hP
          have hD : va_D A [(h, .inr (2, [.int 0, .int vtp, .int vme, .int vta, .int vpl, .int vel, .ref xpg, .ref xli, .ref xty, .ref xen, .ref xtl, .int vsg, .int vus, .int vrw, .int vur, .ref xst, .ref xmn, .ref xdr, .ref xhe, .ref xrs, .ref xrm, .ref xrd, .ref xhr, .int vwr, .int vch, .ref xki, .ref xin, .ref xpl, .ref xle, .ref xso, .ref xva, .ref xck, .ref xci, .ref xcp, .ref xcl, .ref xcs, .ref xcv])), (xdr, .inl (G.2.1 2, 24, .inl gdr)), (xrd, .inl (G.2.1 2, 24, .inl a_18))] := hD
          refine lv_iload_n hx hb d_Md_drop_57 rfl (lv_at hl 0 rfl) ?_
          refine lv_if_eq (tgt := 72) hx hb d_Md_drop_58 (by decide) (fun c_19 => absurd c_19 (by decide)) (fun _ => ?_)
          refine lv_iload_n hx hb d_Md_drop_61 rfl (lv_at hl 3 rfl) ?_
          refine lv_if_ne (tgt := 72) hx hb d_Md_drop_62 (by decide) (fun c_20 => ?_) (fun c_20 => ?_)
          · replace hw := hw.1 c_20
            exact W.vret hx hb hr (fun t ht hW => ⟨⟨(0, gdr, a_18), rfl, hw, by have h9 := hP; rw [← ht] at h9; exact h9⟩, hS.F ht⟩) hS.2.2 d_Md_drop_72
          · replace hw := hw.2 c_20
            refine lv_aload_n hx hb d_Md_drop_65 rfl (lv_at hl 1 rfl) ?_
            refine va_get (D := G.1) (ci := 2) (v := .ref xdr) (C := R_Md) (T := T_Md) (N := 37) hx hb hts in_Md hown hK hP 0 rfl rfl 17 (by decide) (hts _ fl_Md_38) (fun _ h9 => h9) rfl d_Md_drop_66 ?_
            refine lv_iload_n hx hb d_Md_drop_69 rfl (lv_at hl 2 rfl) ?_
            refine lv_iconst (v := 1) hx hb d_Md_drop_70 (by decide) ?_
            obtain ⟨h_21, hw⟩ := hw
            obtain ⟨a_22, ea_22⟩ : ∃ z, z = upd gdr sg.toNatClampNeg (vp_nar .boolean 1) := ⟨_, rfl⟩
            replace hw := hw a_22 ea_22
            refine va_zast hx hb hK hP hD hS 1 2 rfl rfl h_21 d_Md_drop_71 (fun H locs hP hD hS => ?_)
            rw [← ea_22] at hP hD
            have hP : va_P G.1 vwC [(h, .inr (2, [.int 0, .int vtp, .int vme, .int vta, .int vpl, .int vel, .ref xpg, .ref xli, .ref xty, .ref xen, .ref xtl, .int vsg, .int vus, .int vrw, .int vur, .ref xst, .ref xmn, .ref xdr, .ref xhe, .ref xrs, .ref xrm, .ref xrd, .ref xhr, .int vwr, .int vch, .ref xki, .ref xin, .ref xpl, .ref xle, .ref xso, .ref xva, .ref xck, .ref xci, .ref xcp, .ref xcl, .ref xcs, .ref xcv])), (xdr, .inl (G.2.1 2, 24, .inl a_22)), (xrd, .inl (G.2.1 2, 24, .inl a_18))] H := hP
            have hD : va_D A [(h, .inr (2, [.int 0, .int vtp, .int vme, .int vta, .int vpl, .int vel, .ref xpg, .ref xli, .ref xty, .ref xen, .ref xtl, .int vsg, .int vus, .int vrw, .int vur, .ref xst, .ref xmn, .ref xdr, .ref xhe, .ref xrs, .ref xrm, .ref xrd, .ref xhr, .int vwr, .int vch, .ref xki, .ref xin, .ref xpl, .ref xle, .ref xso, .ref xva, .ref xck, .ref xci, .ref xcp, .ref xcl, .ref xcs, .ref xcv])), (xdr, .inl (G.2.1 2, 24, .inl a_22)), (xrd, .inl (G.2.1 2, 24, .inl a_18))] := hD
            exact W.vret hx hb hr (fun t ht hW => ⟨⟨(0, a_22, a_18), rfl, hw, by have h9 := hP; rw [← ht] at h9; exact h9⟩, hS.F ht⟩) hS.2.2 d_Md_drop_72
    · replace hw := hw.2 c_5
      refine lv_aload_n hx hb d_Md_drop_9 rfl (lv_at hl 0 rfl) ?_
      refine va_get (D := G.1) (ci := 2) (v := .int vrw) (C := R_Md) (T := T_Md) (N := 37) hx hb hts in_Md hown hK hP 0 rfl rfl 13 (by decide) (hts _ fl_Md_163) (fun _ h9 => h9) rfl d_Md_drop_10 ?_
      refine lv_goto (tgt := 20) hx hb d_Md_drop_13 (by decide) ?_
      refine lv_icmp_ge (tgt := 27) hx hb d_Md_drop_20 (by decide) (fun c_23 => ?_) (fun c_23 => ?_)
      · replace hw := hw.1 c_23
        refine lv_iconst (v := 0) hx hb d_Md_drop_27 (by decide) ?_
        refine lv_istore_n (lv' := [(3, .int 0), (0, .ref h), (1, .int sg), (2, .int rf)]) hx hb d_Md_drop_28 rfl hl (by decide) rfl (fun ls hl => ?_)
        refine lv_aload_n hx hb d_Md_drop_29 rfl (lv_at hl 1 rfl) ?_
        refine lv_iload_n hx hb d_Md_drop_30 rfl (lv_at hl 0 rfl) ?_
        refine lv_if_eq (tgt := 38) hx hb d_Md_drop_31 (by decide) (fun _ => ?_) (fun c_24 => absurd c_24 (by decide))
        refine lv_iconst (v := 1) hx hb d_Md_drop_38 (by decide) ?_
        refine va_put (D := G.1) (ci := 2) (v := .int 1) (ty := (.int)) (C := R_Md) (T := T_Md) (N := 37) hx hb hts in_Md ty_Md tk_Md nm_Md hown hK hP hD hS 0 rfl rfl 0 (by decide) (hts _ fl_Md_94) (fun _ h9 => h9) rfl (by decide +kernel) rfl rfl (Nat.le_of_ble_eq_true rfl) d_Md_drop_39 (fun H locs hP hD hS => ?_)
        have hP : va_P G.1 vwC [(h, .inr (2, [.int 1, .int vtp, .int vme, .int vta, .int vpl, .int vel, .ref xpg, .ref xli, .ref xty, .ref xen, .ref xtl, .int vsg, .int vus, .int vrw, .int vur, .ref xst, .ref xmn, .ref xdr, .ref xhe, .ref xrs, .ref xrm, .ref xrd, .ref xhr, .int vwr, .int vch, .ref xki, .ref xin, .ref xpl, .ref xle, .ref xso, .ref xva, .ref xck, .ref xci, .ref xcp, .ref xcl, .ref xcs, .ref xcv])), (xdr, .inl (G.2.1 2, 24, .inl gdr)), (xrd, .inl (G.2.1 2, 24, .inl grd))] H := hP
        have hD : va_D A [(h, .inr (2, [.int 1, .int vtp, .int vme, .int vta, .int vpl, .int vel, .ref xpg, .ref xli, .ref xty, .ref xen, .ref xtl, .int vsg, .int vus, .int vrw, .int vur, .ref xst, .ref xmn, .ref xdr, .ref xhe, .ref xrs, .ref xrm, .ref xrd, .ref xhr, .int vwr, .int vch, .ref xki, .ref xin, .ref xpl, .ref xle, .ref xso, .ref xva, .ref xck, .ref xci, .ref xcp, .ref xcl, .ref xcs, .ref xcv])), (xdr, .inl (G.2.1 2, 24, .inl gdr)), (xrd, .inl (G.2.1 2, 24, .inl grd))] := hD
        refine lv_iload_n hx hb d_Md_drop_42 rfl (lv_at hl 0 rfl) ?_
        refine lv_if_eq (tgt := 57) hx hb d_Md_drop_43 (by decide) (fun _ => ?_) (fun c_25 => absurd c_25 (by decide))
        refine lv_iload_n hx hb d_Md_drop_57 rfl (lv_at hl 0 rfl) ?_
        refine lv_if_eq (tgt := 72) hx hb d_Md_drop_58 (by decide) (fun _ => ?_) (fun c_26 => absurd c_26 (by decide))
        exact W.vret hx hb hr (fun t ht hW => ⟨⟨(1, gdr, grd), rfl, hw, by have h9 := hP; rw [← ht] at h9; exact h9⟩, hS.F ht⟩) hS.2.2 d_Md_drop_72
      · replace hw := hw.2 c_23
        refine lv_iconst (v := 1) hx hb d_Md_drop_23 (by decide) ?_
        refine lv_goto (tgt := 28) hx hb d_Md_drop_24 (by decide) ?_
        refine lv_istore_n (lv' := [(3, .int 1), (0, .ref h), (1, .int sg), (2, .int rf)]) hx hb d_Md_drop_28 rfl hl (by decide) rfl (fun ls hl => ?_)
        refine lv_aload_n hx hb d_Md_drop_29 rfl (lv_at hl 1 rfl) ?_
        refine lv_iload_n hx hb d_Md_drop_30 rfl (lv_at hl 0 rfl) ?_
        refine lv_if_eq (tgt := 38) hx hb d_Md_drop_31 (by decide) (fun c_27 => absurd c_27 (by decide)) (fun _ => ?_)
        refine lv_iconst (v := 0) hx hb d_Md_drop_34 (by decide) ?_
        refine lv_goto (tgt := 39) hx hb d_Md_drop_35 (by decide) ?_
        refine va_put (D := G.1) (ci := 2) (v := .int 0) (ty := (.int)) (C := R_Md) (T := T_Md) (N := 37) hx hb hts in_Md ty_Md tk_Md nm_Md hown hK hP hD hS 0 rfl rfl 0 (by decide) (hts _ fl_Md_94) (fun _ h9 => h9) rfl (by decide +kernel) rfl rfl (Nat.le_of_ble_eq_true rfl) d_Md_drop_39 (fun H locs hP hD hS => ?_)
        have hP : va_P G.1 vwC [(h, .inr (2, [.int 0, .int vtp, .int vme, .int vta, .int vpl, .int vel, .ref xpg, .ref xli, .ref xty, .ref xen, .ref xtl, .int vsg, .int vus, .int vrw, .int vur, .ref xst, .ref xmn, .ref xdr, .ref xhe, .ref xrs, .ref xrm, .ref xrd, .ref xhr, .int vwr, .int vch, .ref xki, .ref xin, .ref xpl, .ref xle, .ref xso, .ref xva, .ref xck, .ref xci, .ref xcp, .ref xcl, .ref xcs, .ref xcv])), (xdr, .inl (G.2.1 2, 24, .inl gdr)), (xrd, .inl (G.2.1 2, 24, .inl grd))] H := hP
        have hD : va_D A [(h, .inr (2, [.int 0, .int vtp, .int vme, .int vta, .int vpl, .int vel, .ref xpg, .ref xli, .ref xty, .ref xen, .ref xtl, .int vsg, .int vus, .int vrw, .int vur, .ref xst, .ref xmn, .ref xdr, .ref xhe, .ref xrs, .ref xrm, .ref xrd, .ref xhr, .int vwr, .int vch, .ref xki, .ref xin, .ref xpl, .ref xle, .ref xso, .ref xva, .ref xck, .ref xci, .ref xcp, .ref xcl, .ref xcs, .ref xcv])), (xdr, .inl (G.2.1 2, 24, .inl gdr)), (xrd, .inl (G.2.1 2, 24, .inl grd))] := hD
        refine lv_iload_n hx hb d_Md_drop_42 rfl (lv_at hl 0 rfl) ?_
        refine lv_if_eq (tgt := 57) hx hb d_Md_drop_43 (by decide) (fun c_28 => absurd c_28 (by decide)) (fun _ => ?_)
        refine lv_iload_n hx hb d_Md_drop_46 rfl (lv_at hl 3 rfl) ?_
        refine lv_if_eq (tgt := 57) hx hb d_Md_drop_47 (by decide) (fun c_29 => ?_) (fun c_29 => ?_)
        · replace hw := hw.1 c_29
          refine lv_iload_n hx hb d_Md_drop_57 rfl (lv_at hl 0 rfl) ?_
          refine lv_if_eq (tgt := 72) hx hb d_Md_drop_58 (by decide) (fun c_30 => absurd c_30 (by decide)) (fun _ => ?_)
          refine lv_iload_n hx hb d_Md_drop_61 rfl (lv_at hl 3 rfl) ?_
          refine lv_if_ne (tgt := 72) hx hb d_Md_drop_62 (by decide) (fun c_31 => ?_) (fun c_31 => ?_)
          · replace hw := hw.1 c_31
            exact W.vret hx hb hr (fun t ht hW => ⟨⟨(0, gdr, grd), rfl, hw, by have h9 := hP; rw [← ht] at h9; exact h9⟩, hS.F ht⟩) hS.2.2 d_Md_drop_72
          · replace hw := hw.2 c_31
            refine lv_aload_n hx hb d_Md_drop_65 rfl (lv_at hl 1 rfl) ?_
            refine va_get (D := G.1) (ci := 2) (v := .ref xdr) (C := R_Md) (T := T_Md) (N := 37) hx hb hts in_Md hown hK hP 0 rfl rfl 17 (by decide) (hts _ fl_Md_38) (fun _ h9 => h9) rfl d_Md_drop_66 ?_
            refine lv_iload_n hx hb d_Md_drop_69 rfl (lv_at hl 2 rfl) ?_
            refine lv_iconst (v := 1) hx hb d_Md_drop_70 (by decide) ?_
            obtain ⟨h_32, hw⟩ := hw
            obtain ⟨a_33, ea_33⟩ : ∃ z, z = upd gdr sg.toNatClampNeg (vp_nar .boolean 1) := ⟨_, rfl⟩
            replace hw := hw a_33 ea_33
            refine va_zast hx hb hK hP hD hS 1 2 rfl rfl h_32 d_Md_drop_71 (fun H locs hP hD hS => ?_)
            rw [← ea_33] at hP hD
            have hP : va_P G.1 vwC [(h, .inr (2, [.int 0, .int vtp, .int vme, .int vta, .int vpl, .int vel, .ref xpg, .ref xli, .ref xty, .ref xen, .ref xtl, .int vsg, .int vus, .int vrw, .int vur, .ref xst, .ref xmn, .ref xdr, .ref xhe, .ref xrs, .ref xrm, .ref xrd, .ref xhr, .int vwr, .int vch, .ref xki, .ref xin, .ref xpl, .ref xle, .ref xso, .ref xva, .ref xck, .ref xci, .ref xcp, .ref xcl, .ref xcs, .ref xcv])), (xdr, .inl (G.2.1 2, 24, .inl a_33)), (xrd, .inl (G.2.1 2, 24, .inl grd))] H := hP
            have hD : va_D A [(h, .inr (2, [.int 0, .int vtp, .int vme, .int vta, .int vpl, .int vel, .ref xpg, .ref xli, .ref xty, .ref xen, .ref xtl, .int vsg, .int vus, .int vrw, .int vur, .ref xst, .ref xmn, .ref xdr, .ref xhe, .ref xrs, .ref xrm, .ref xrd, .ref xhr, .int vwr, .int vch, .ref xki, .ref xin, .ref xpl, .ref xle, .ref xso, .ref xva, .ref xck, .ref xci, .ref xcp, .ref xcl, .ref xcs, .ref xcv])), (xdr, .inl (G.2.1 2, 24, .inl a_33)), (xrd, .inl (G.2.1 2, 24, .inl grd))] := hD
            exact W.vret hx hb hr (fun t ht hW => ⟨⟨(0, a_33, grd), rfl, hw, by have h9 := hP; rw [← ht] at h9; exact h9⟩, hS.F ht⟩) hS.2.2 d_Md_drop_72
        · replace hw := hw.2 c_29
          refine lv_aload_n hx hb d_Md_drop_50 rfl (lv_at hl 1 rfl) ?_
          refine va_get (D := G.1) (ci := 2) (v := .ref xrd) (C := R_Md) (T := T_Md) (N := 37) hx hb hts in_Md hown hK hP 0 rfl rfl 21 (by decide) (hts _ fl_Md_51) (fun _ h9 => h9) rfl d_Md_drop_51 ?_
          refine lv_iload_n hx hb d_Md_drop_54 rfl (lv_at hl 2 rfl) ?_
          refine lv_iconst (v := 1) hx hb d_Md_drop_55 (by decide) ?_
          obtain ⟨h_34, hw⟩ := hw
          obtain ⟨a_35, ea_35⟩ : ∃ z, z = upd grd sg.toNatClampNeg (vp_nar .boolean 1) := ⟨_, rfl⟩
          replace hw := hw a_35 ea_35
          refine va_zast hx hb hK hP hD hS 2 2 rfl rfl h_34 d_Md_drop_56 (fun H locs hP hD hS => ?_)
          rw [← ea_35] at hP hD
          have hP : va_P G.1 vwC [(h, .inr (2, [.int 0, .int vtp, .int vme, .int vta, .int vpl, .int vel, .ref xpg, .ref xli, .ref xty, .ref xen, .ref xtl, .int vsg, .int vus, .int vrw, .int vur, .ref xst, .ref xmn, .ref xdr, .ref xhe, .ref xrs, .ref xrm, .ref xrd, .ref xhr, .int vwr, .int vch, .ref xki, .ref xin, .ref xpl, .ref xle, .ref xso, .ref xva, .ref xck, .ref xci, .ref xcp, .ref xcl, .ref xcs, .ref xcv])), (xdr, .inl (G.2.1 2, 24, .inl gdr)), (xrd, .inl (G.2.1 2, 24, .inl a_35))] H := hP
          have hD : va_D A [(h, .inr (2, [.int 0, .int vtp, .int vme, .int vta, .int vpl, .int vel, .ref xpg, .ref xli, .ref xty, .ref xen, .ref xtl, .int vsg, .int vus, .int vrw, .int vur, .ref xst, .ref xmn, .ref xdr, .ref xhe, .ref xrs, .ref xrm, .ref xrd, .ref xhr, .int vwr, .int vch, .ref xki, .ref xin, .ref xpl, .ref xle, .ref xso, .ref xva, .ref xck, .ref xci, .ref xcp, .ref xcl, .ref xcs, .ref xcv])), (xdr, .inl (G.2.1 2, 24, .inl gdr)), (xrd, .inl (G.2.1 2, 24, .inl a_35))] := hD
          refine lv_iload_n hx hb d_Md_drop_57 rfl (lv_at hl 0 rfl) ?_
          refine lv_if_eq (tgt := 72) hx hb d_Md_drop_58 (by decide) (fun c_36 => absurd c_36 (by decide)) (fun _ => ?_)
          refine lv_iload_n hx hb d_Md_drop_61 rfl (lv_at hl 3 rfl) ?_
          refine lv_if_ne (tgt := 72) hx hb d_Md_drop_62 (by decide) (fun c_37 => ?_) (fun c_37 => ?_)
          · replace hw := hw.1 c_37
            exact W.vret hx hb hr (fun t ht hW => ⟨⟨(0, gdr, a_35), rfl, hw, by have h9 := hP; rw [← ht] at h9; exact h9⟩, hS.F ht⟩) hS.2.2 d_Md_drop_72
          · replace hw := hw.2 c_37
            refine lv_aload_n hx hb d_Md_drop_65 rfl (lv_at hl 1 rfl) ?_
            refine va_get (D := G.1) (ci := 2) (v := .ref xdr) (C := R_Md) (T := T_Md) (N := 37) hx hb hts in_Md hown hK hP 0 rfl rfl 17 (by decide) (hts _ fl_Md_38) (fun _ h9 => h9) rfl d_Md_drop_66 ?_
            refine lv_iload_n hx hb d_Md_drop_69 rfl (lv_at hl 2 rfl) ?_
            refine lv_iconst (v := 1) hx hb d_Md_drop_70 (by decide) ?_
            obtain ⟨h_38, hw⟩ := hw
            obtain ⟨a_39, ea_39⟩ : ∃ z, z = upd gdr sg.toNatClampNeg (vp_nar .boolean 1) := ⟨_, rfl⟩
            replace hw := hw a_39 ea_39
            refine va_zast hx hb hK hP hD hS 1 2 rfl rfl h_38 d_Md_drop_71 (fun H locs hP hD hS => ?_)
            rw [← ea_39] at hP hD
            have hP : va_P G.1 vwC [(h, .inr (2, [.int 0, .int vtp, .int vme, .int vta, .int vpl, .int vel, .ref xpg, .ref xli, .ref xty, .ref xen, .ref xtl, .int vsg, .int vus, .int vrw, .int vur, .ref xst, .ref xmn, .ref xdr, .ref xhe, .ref xrs, .ref xrm, .ref xrd, .ref xhr, .int vwr, .int vch, .ref xki, .ref xin, .ref xpl, .ref xle, .ref xso, .ref xva, .ref xck, .ref xci, .ref xcp, .ref xcl, .ref xcs, .ref xcv])), (xdr, .inl (G.2.1 2, 24, .inl a_39)), (xrd, .inl (G.2.1 2, 24, .inl a_35))] H := hP
            have hD : va_D A [(h, .inr (2, [.int 0, .int vtp, .int vme, .int vta, .int vpl, .int vel, .ref xpg, .ref xli, .ref xty, .ref xen, .ref xtl, .int vsg, .int vus, .int vrw, .int vur, .ref xst, .ref xmn, .ref xdr, .ref xhe, .ref xrs, .ref xrm, .ref xrd, .ref xhr, .int vwr, .int vch, .ref xki, .ref xin, .ref xpl, .ref xle, .ref xso, .ref xva, .ref xck, .ref xci, .ref xcp, .ref xcl, .ref xcs, .ref xcv])), (xdr, .inl (G.2.1 2, 24, .inl a_39)), (xrd, .inl (G.2.1 2, 24, .inl a_35))] := hD
            exact W.vret hx hb hr (fun t ht hW => ⟨⟨(0, a_39, a_35), rfl, hw, by have h9 := hP; rw [← ht] at h9; exact h9⟩, hS.F ht⟩) hS.2.2 d_Md_drop_72
def wp_Md_table (post : Int32 → (Int32 × Int32 × Int32 × (Nat → Int32) × (Nat → Int32) × (Nat → Int32)) → Prop) (vth : Int32) (vtp : Int32) (vme : Int32) (vta : Int32) (vpl : Int32) (vel : Int32) (vsg : Int32) (vus : Int32) (vrw : Int32) (vur : Int32) (vwr : Int32) (vch : Int32) (gty : Nat → Int32) (gen : Nat → Int32) (gtl : Nat → Int32) (typ : Int32) (en : Int32) (lim : Int32) : Prop := ((vta = 6 → (post (-1) (0, vta, vel, gty, gen, gtl))) ∧ (¬ vta = 6 → (((typ = 112 → (((en < 0 → (post (-1) (0, vta, vel, gty, gen, gtl))) ∧ (¬ en < 0 → (((0 < lg_cmp en.toInt64 (u32 lim) → (post (-1) (0, vta, vel, gty, gen, gtl))) ∧ (¬ 0 < lg_cmp en.toInt64 (u32 lim) → (((en ≤ vel → ((vp_in vta 6) ∧ ∀ a_7 : Nat → Int32, a_7 = upd gty vta.toNatClampNeg typ → ((vp_in vta 6) ∧ ∀ a_9 : Nat → Int32, a_9 = upd gen vta.toNatClampNeg en → ((vp_in vta 6) ∧ ∀ a_11 : Nat → Int32, a_11 = upd gtl vta.toNatClampNeg lim → (∀ x_12 : Int32, x_12 = vel - en → (∀ x_13 : Int32, x_13 = vta + 1 → (post (x_13 - 1) (0, x_13, x_12, a_7, a_9, a_11)))))))) ∧ (¬ en ≤ vel → (post (-1) (0, vta, vel, gty, gen, gtl)))))))))))) ∧ (¬ typ = 112 → (((¬ typ = 111 → (post (-1) (0, vta, vel, gty, gen, gtl))) ∧ (typ = 111 → (((en < 0 → (post (-1) (0, vta, vel, gty, gen, gtl))) ∧ (¬ en < 0 → (((0 < lg_cmp en.toInt64 (u32 lim) → (post (-1) (0, vta, vel, gty, gen, gtl))) ∧ (¬ 0 < lg_cmp en.toInt64 (u32 lim) → (((en ≤ vel → ((vp_in vta 6) ∧ ∀ a_19 : Nat → Int32, a_19 = upd gty vta.toNatClampNeg typ → ((vp_in vta 6) ∧ ∀ a_21 : Nat → Int32, a_21 = upd gen vta.toNatClampNeg en → ((vp_in vta 6) ∧ ∀ a_23 : Nat → Int32, a_23 = upd gtl vta.toNatClampNeg lim → (∀ x_24 : Int32, x_24 = vel - en → (∀ x_25 : Int32, x_25 = vta + 1 → (post (x_25 - 1) (0, x_25, x_24, a_19, a_21, a_23)))))))) ∧ (¬ en ≤ vel → (post (-1) (0, vta, vel, gty, gen, gtl)))))))))))))))))))
set_option maxHeartbeats 4000000 in
set_option maxRecDepth 100000 in
theorem t_Md_table (l : Launch) (G : cxT) (h : Nat) (xpg : Nat) (xli : Nat) (xty : Nat) (xen : Nat) (xtl : Nat) (xst : Nat) (xmn : Nat) (xdr : Nat) (xhe : Nat) (xrs : Nat) (xrm : Nat) (xrd : Nat) (xhr : Nat) (xki : Nat) (xin : Nat) (xpl : Nat) (xle : Nat) (xso : Nat) (xva : Nat) (xck : Nat) (xci : Nat) (xcp : Nat) (xcl : Nat) (xcs : Nat) (xcv : Nat) (vth : Int32) (vtp : Int32) (vme : Int32) (vta : Int32) (vpl : Int32) (vel : Int32) (vsg : Int32) (vus : Int32) (vrw : Int32) (vur : Int32) (vwr : Int32) (vch : Int32) (gty : Nat → Int32) (gen : Nat → Int32) (gtl : Nat → Int32) (typ : Int32) (en : Int32) (lim : Int32) (sz : Nat) (post : Int32 → (Int32 × Int32 × Int32 × (Nat → Int32) × (Nat → Int32) × (Nat → Int32)) → Prop) (hw : wp_Md_table post vth vtp vme vta vpl vel vsg vus vrw vur vwr vch gty gen gtl typ en lim) : Met l y_Md_table [.code y_Md_table b_Md_table 4 (some .int)] ({ frames := 4, cells := 0, slots := 0, locals := 140 } : Room) (cm G [.ref h, .int typ, .int en, .int lim] [(h, .inr (2, [.int vth, .int vtp, .int vme, .int vta, .int vpl, .int vel, .ref xpg, .ref xli, .ref xty, .ref xen, .ref xtl, .int vsg, .int vus, .int vrw, .int vur, .ref xst, .ref xmn, .ref xdr, .ref xhe, .ref xrs, .ref xrm, .ref xrd, .ref xhr, .int vwr, .int vch, .ref xki, .ref xin, .ref xpl, .ref xle, .ref xso, .ref xva, .ref xck, .ref xci, .ref xcp, .ref xcl, .ref xcs, .ref xcv])), (xty, .inl (G.2.1 0, 6, .inl gty)), (xen, .inl (G.2.1 0, 6, .inl gen)), (xtl, .inl (G.2.1 0, 6, .inl gtl))] sz) (va_Qi post (fun u t => va_P G.1 vwC [(h, .inr (2, [.int u.1, .int vtp, .int vme, .int u.2.1, .int vpl, .int u.2.2.1, .ref xpg, .ref xli, .ref xty, .ref xen, .ref xtl, .int vsg, .int vus, .int vrw, .int vur, .ref xst, .ref xmn, .ref xdr, .ref xhe, .ref xrs, .ref xrm, .ref xrd, .ref xhr, .int vwr, .int vch, .ref xki, .ref xin, .ref xpl, .ref xle, .ref xso, .ref xva, .ref xck, .ref xci, .ref xcp, .ref xcl, .ref xcs, .ref xcv])), (xty, .inl (G.2.1 0, 6, .inl u.2.2.2.1)), (xen, .inl (G.2.1 0, 6, .inl u.2.2.2.2.1)), (xtl, .inl (G.2.1 0, 6, .inl u.2.2.2.2.2))] t.heap) (va_A [(h, .inr (2, [.int vth, .int vtp, .int vme, .int vta, .int vpl, .int vel, .ref xpg, .ref xli, .ref xty, .ref xen, .ref xtl, .int vsg, .int vus, .int vrw, .int vur, .ref xst, .ref xmn, .ref xdr, .ref xhe, .ref xrs, .ref xrm, .ref xrd, .ref xhr, .int vwr, .int vch, .ref xki, .ref xin, .ref xpl, .ref xle, .ref xso, .ref xva, .ref xck, .ref xci, .ref xcp, .ref xcl, .ref xcs, .ref xcv])), (xty, .inl (G.2.1 0, 6, .inl gty)), (xen, .inl (G.2.1 0, 6, .inl gen)), (xtl, .inl (G.2.1 0, 6, .inl gtl))] sz)) 0 0 (va_A [(h, .inr (2, [.int vth, .int vtp, .int vme, .int vta, .int vpl, .int vel, .ref xpg, .ref xli, .ref xty, .ref xen, .ref xtl, .int vsg, .int vus, .int vrw, .int vur, .ref xst, .ref xmn, .ref xdr, .ref xhe, .ref xrs, .ref xrm, .ref xrd, .ref xhr, .int vwr, .int vch, .ref xki, .ref xin, .ref xpl, .ref xle, .ref xso, .ref xva, .ref xck, .ref xci, .ref xcp, .ref xcl, .ref xcs, .ref xcv])), (xty, .inl (G.2.1 0, 6, .inl gty)), (xen, .inl (G.2.1 0, 6, .inl gen)), (xtl, .inl (G.2.1 0, 6, .inl gtl))] sz) := by
  refine Met.ofW (cc := b_Md_table) (maxL := 4) (ret := (some .int)) (by decide +kernel) rfl ?_
  intro p e s m args below meth c s₁ B hml hv
  obtain ⟨rfl, hsz, hcx, hP, hD0⟩ := hv
  have hx := B.exec
  have hb := B.bytes
  have hr := B.returns
  have hlocks := B.notSynchronized
  have hown : s.vm.findClass R_Md = some m.cls := findClass_of_methodNamed B.named
  subst hsz
  have hD := hD0.self (sz := s.heap.size)
  generalize hAe : va_A [(h, .inr (2, [.int vth, .int vtp, .int vme, .int vta, .int vpl, .int vel, .ref xpg, .ref xli, .ref xty, .ref xen, .ref xtl, .int vsg, .int vus, .int vrw, .int vur, .ref xst, .ref xmn, .ref xdr, .ref xhe, .ref xrs, .ref xrm, .ref xrd, .ref xhr, .int vwr, .int vch, .ref xki, .ref xin, .ref xpl, .ref xle, .ref xso, .ref xva, .ref xck, .ref xci, .ref xcp, .ref xcl, .ref xcs, .ref xcv])), (xty, .inl (G.2.1 0, 6, .inl gty)), (xen, .inl (G.2.1 0, 6, .inl gen)), (xtl, .inl (G.2.1 0, 6, .inl gtl))] s.heap.size = A at hD hcx ⊢
  have hA : ∀ q : Nat, s.heap.size ≤ q → A q := fun q h => by rw [← hAe]; exact Or.inr h
  have hS : va_S A s.heap s.heap [] := va_S.rf
  have hts := hcx.now.1 [.ref h, .int typ, .int en, .int lim].toArray
  have hK := hcx.now.2.1
  have hl := lv_entry ([.ref h, .int typ, .int en, .int lim]) (n := 4) (Nat.le_of_ble_eq_true rfl)
  rw [lg_entry_eq]
  generalize (lg_sl ([.ref h, .int typ, .int en, .int lim]) ++ List.replicate (4 - (lg_sl ([.ref h, .int typ, .int en, .int lim])).length) Slot.unset).toArray = ls at hl ⊢
  have hl : lv_has ls 4 [(0, .ref h), (1, .int typ), (2, .int en), (3, .int lim)] := hl
  unfold wp_Md_table at hw
  refine lv_aload_n hx hb d_Md_table_0 rfl (lv_at hl 0 rfl) ?_
  refine lv_iconst (v := 0) hx hb d_Md_table_1 (by decide) ?_
  refine va_put (D := G.1) (ci := 2) (v := .int 0) (ty := (.int)) (C := R_Md) (T := T_Md) (N := 37) hx hb hts in_Md ty_Md tk_Md nm_Md hown hK hP hD hS 0 rfl rfl 0 (by decide) (hts _ fl_Md_94) (fun _ h9 => h9) rfl (by decide +kernel) rfl rfl (Nat.le_of_ble_eq_true rfl) d_Md_table_2 (fun H locs hP hD hS => ?_)
  have hP : va_P G.1 vwC [(h, .inr (2, [.int 0, .int vtp, .int vme, .int vta, .int vpl, .int vel, .ref xpg, .ref xli, .ref xty, .ref xen, .ref xtl, .int vsg, .int vus, .int vrw, .int vur, .ref xst, .ref xmn, .ref xdr, .ref xhe, .ref xrs, .ref xrm, .ref xrd, .ref xhr, .int vwr, .int vch, .ref xki, .ref xin, .ref xpl, .ref xle, .ref xso, .ref xva, .ref xck, .ref xci, .ref xcp, .ref xcl, .ref xcs, .ref xcv])), (xty, .inl (G.2.1 0, 6, .inl gty)), (xen, .inl (G.2.1 0, 6, .inl gen)), (xtl, .inl (G.2.1 0, 6, .inl gtl))] H := hP
  have hD : va_D A [(h, .inr (2, [.int 0, .int vtp, .int vme, .int vta, .int vpl, .int vel, .ref xpg, .ref xli, .ref xty, .ref xen, .ref xtl, .int vsg, .int vus, .int vrw, .int vur, .ref xst, .ref xmn, .ref xdr, .ref xhe, .ref xrs, .ref xrm, .ref xrd, .ref xhr, .int vwr, .int vch, .ref xki, .ref xin, .ref xpl, .ref xle, .ref xso, .ref xva, .ref xck, .ref xci, .ref xcp, .ref xcl, .ref xcs, .ref xcv])), (xty, .inl (G.2.1 0, 6, .inl gty)), (xen, .inl (G.2.1 0, 6, .inl gen)), (xtl, .inl (G.2.1 0, 6, .inl gtl))] := hD
  refine lv_aload_n hx hb d_Md_table_5 rfl (lv_at hl 0 rfl) ?_
  refine va_get (D := G.1) (ci := 2) (v := .int vta) (C := R_Md) (T := T_Md) (N := 37) hx hb hts in_Md hown hK hP 0 rfl rfl 3 (by decide) (hts _ fl_Md_102) (fun _ h9 => h9) rfl d_Md_table_6 ?_
  refine lv_bipush (v := 6) hx hb d_Md_table_9 (by decide) ?_
  refine lv_icmp_eq (tgt := 48) hx hb d_Md_table_11 (by decide) (fun c_1 => ?_) (fun c_1 => ?_)
  · replace hw := hw.1 c_1
    refine lv_iconst (v := (-1)) hx hb d_Md_table_48 (by decide) ?_
    exact W.iret (v := (-1)) hx hb hr (fun t ht hW => ⟨⟨(-1), (0, vta, vel, gty, gen, gtl), rfl, hw, by have h9 := hP; rw [← ht] at h9; exact h9⟩, hS.F ht⟩) hS.2.2 d_Md_table_49
  · replace hw := hw.2 c_1
    refine lv_iload_n hx hb d_Md_table_14 rfl (lv_at hl 1 rfl) ?_
    refine lv_bipush (v := 112) hx hb d_Md_table_15 (by decide) ?_
    refine lv_icmp_eq (tgt := 26) hx hb d_Md_table_17 (by decide) (fun c_2 => ?_) (fun c_2 => ?_)
    · replace hw := hw.1 c_2
      refine lv_iload_n hx hb d_Md_table_26 rfl (lv_at hl 2 rfl) ?_
      refine lv_if_lt (tgt := 48) hx hb d_Md_table_27 (by decide) (fun c_3 => ?_) (fun c_3 => ?_)
      · replace hw := hw.1 c_3
        refine lv_iconst (v := (-1)) hx hb d_Md_table_48 (by decide) ?_
        exact W.iret (v := (-1)) hx hb hr (fun t ht hW => ⟨⟨(-1), (0, vta, vel, gty, gen, gtl), rfl, hw, by have h9 := hP; rw [← ht] at h9; exact h9⟩, hS.F ht⟩) hS.2.2 d_Md_table_49
      · replace hw := hw.2 c_3
        refine lv_iload_n hx hb d_Md_table_30 rfl (lv_at hl 2 rfl) ?_
        refine lv_i2l (v := en.toInt64) hx hb d_Md_table_31 rfl ?_
        refine lv_iload_n hx hb d_Md_table_32 rfl (lv_at hl 3 rfl) ?_
        have hPc := hP.sub (ws' := []) [] rfl
        refine pu_l (va_runS (As := [.int lim]) (rest := [.long en.toInt64]) ⟨hx, hb, hml, hown, hts⟩ (c_Md_wide l G lim) (va_cwS 1 hts (gi_S ml_Md_123 sm_Md_wide ini_Md co_Md_wide) rfl rfl rfl (by decide +kernel) ⟨Nat.le_of_ble_eq_true rfl, Nat.le_of_ble_eq_true rfl⟩) ⟨cp_blind, cp_pre hcx hS hPc⟩ rfl rfl hl.1 rfl (lv_room (Nat.le_of_ble_eq_true rfl)) d_Md_table_33 ⟨Nat.le_of_ble_eq_true rfl, Nat.le_of_ble_eq_true rfl⟩) hS hP (fun H locs hP hS => ?_)
        refine W.lcmp hx hb d_Md_table_36 ?_
        refine lv_if_gt (tgt := 48) hx hb d_Md_table_37 (by decide) (fun c_4 => ?_) (fun c_4 => ?_)
        · replace hw := hw.1 c_4
          refine lv_iconst (v := (-1)) hx hb d_Md_table_48 (by decide) ?_
          exact W.iret (v := (-1)) hx hb hr (fun t ht hW => ⟨⟨(-1), (0, vta, vel, gty, gen, gtl), rfl, hw, by have h9 := hP; rw [← ht] at h9; exact h9⟩, hS.F ht⟩) hS.2.2 d_Md_table_49
        · replace hw := hw.2 c_4
          refine lv_iload_n hx hb d_Md_table_40 rfl (lv_at hl 2 rfl) ?_
          refine lv_aload_n hx hb d_Md_table_41 rfl (lv_at hl 0 rfl) ?_
          refine va_get (D := G.1) (ci := 2) (v := .int vel) (C := R_Md) (T := T_Md) (N := 37) hx hb hts in_Md hown hK hP 0 rfl rfl 5 (by decide) (hts _ fl_Md_13) (fun _ h9 => h9) rfl d_Md_table_42 ?_
          refine lv_icmp_le (tgt := 50) hx hb d_Md_table_45 (by decide) (fun c_5 => ?_) (fun c_5 => ?_)
          · replace hw := hw.1 c_5
            refine lv_aload_n hx hb d_Md_table_50 rfl (lv_at hl 0 rfl) ?_
            refine va_get (D := G.1) (ci := 2) (v := .ref xty) (C := R_Md) (T := T_Md) (N := 37) hx hb hts in_Md hown hK hP 0 rfl rfl 8 (by decide) (hts _ fl_Md_23) (fun _ h9 => h9) rfl d_Md_table_51 ?_
            refine lv_aload_n hx hb d_Md_table_54 rfl (lv_at hl 0 rfl) ?_
            refine va_get (D := G.1) (ci := 2) (v := .int vta) (C := R_Md) (T := T_Md) (N := 37) hx hb hts in_Md hown hK hP 0 rfl rfl 3 (by decide) (hts _ fl_Md_102) (fun _ h9 => h9) rfl d_Md_table_55 ?_
            refine lv_iload_n hx hb d_Md_table_58 rfl (lv_at hl 1 rfl) ?_
            obtain ⟨h_6, hw⟩ := hw
            obtain ⟨a_7, ea_7⟩ : ∃ z, z = upd gty vta.toNatClampNeg typ := ⟨_, rfl⟩
            replace hw := hw a_7 ea_7
            refine va_iast hx hb hK hP hD hS 1 0 rfl rfl h_6 d_Md_table_59 (fun H locs hP hD hS => ?_)
            rw [← ea_7] at hP hD
            have hP : va_P G.1 vwC [(h, .inr (2, [.int 0, .int vtp, .int vme, .int vta, .int vpl, .int vel, .ref xpg, .ref xli, .ref xty, .ref xen, .ref xtl, .int vsg, .int vus, .int vrw, .int vur, .ref xst, .ref xmn, .ref xdr, .ref xhe, .ref xrs, .ref xrm, .ref xrd, .ref xhr, .int vwr, .int vch, .ref xki, .ref xin, .ref xpl, .ref xle, .ref xso, .ref xva, .ref xck, .ref xci, .ref xcp, .ref xcl, .ref xcs, .ref xcv])), (xty, .inl (G.2.1 0, 6, .inl a_7)), (xen, .inl (G.2.1 0, 6, .inl gen)), (xtl, .inl (G.2.1 0, 6, .inl gtl))] H := hP
            have hD : va_D A [(h, .inr (2, [.int 0, .int vtp, .int vme, .int vta, .int vpl, .int vel, .ref xpg, .ref xli, .ref xty, .ref xen, .ref xtl, .int vsg, .int vus, .int vrw, .int vur, .ref xst, .ref xmn, .ref xdr, .ref xhe, .ref xrs, .ref xrm, .ref xrd, .ref xhr, .int vwr, .int vch, .ref xki, .ref xin, .ref xpl, .ref xle, .ref xso, .ref xva, .ref xck, .ref xci, .ref xcp, .ref xcl, .ref xcs, .ref xcv])), (xty, .inl (G.2.1 0, 6, .inl a_7)), (xen, .inl (G.2.1 0, 6, .inl gen)), (xtl, .inl (G.2.1 0, 6, .inl gtl))] := hD
            refine lv_aload_n hx hb d_Md_table_60 rfl (lv_at hl 0 rfl) ?_
            refine va_get (D := G.1) (ci := 2) (v := .ref xen) (C := R_Md) (T := T_Md) (N := 37) hx hb hts in_Md hown hK hP 0 rfl rfl 9 (by decide) (hts _ fl_Md_26) (fun _ h9 => h9) rfl d_Md_table_61 ?_
            refine lv_aload_n hx hb d_Md_table_64 rfl (lv_at hl 0 rfl) ?_
            refine va_get (D := G.1) (ci := 2) (v := .int vta) (C := R_Md) (T := T_Md) (N := 37) hx hb hts in_Md hown hK hP 0 rfl rfl 3 (by decide) (hts _ fl_Md_102) (fun _ h9 => h9) rfl d_Md_table_65 ?_
            refine lv_iload_n hx hb d_Md_table_68 rfl (lv_at hl 2 rfl) ?_
            obtain ⟨h_8, hw⟩ := hw
            obtain ⟨a_9, ea_9⟩ : ∃ z, z = upd gen vta.toNatClampNeg en := ⟨_, rfl⟩
            replace hw := hw a_9 ea_9
            refine va_iast hx hb hK hP hD hS 2 0 rfl rfl h_8 d_Md_table_69 (fun H locs hP hD hS => ?_)
            rw [← ea_9] at hP hD
            have hP : va_P G.1 vwC [(h, .inr (2, [.int 0, .int vtp, .int vme, .int vta, .int vpl, .int vel, .ref xpg, .ref xli, .ref xty, .ref xen, .ref xtl, .int vsg, .int vus, .int vrw, .int vur, .ref xst, .ref xmn, .ref xdr, .ref xhe, .ref xrs, .ref xrm, .ref xrd, .ref xhr, .int vwr, .int vch, .ref xki, .ref xin, .ref xpl, .ref xle, .ref xso, .ref xva, .ref xck, .ref xci, .ref xcp, .ref xcl, .ref xcs, .ref xcv])), (xty, .inl (G.2.1 0, 6, .inl a_7)), (xen, .inl (G.2.1 0, 6, .inl a_9)), (xtl, .inl (G.2.1 0, 6, .inl gtl))] H := hP
            have hD : va_D A [(h, .inr (2, [.int 0, .int vtp, .int vme, .int vta, .int vpl, .int vel, .ref xpg, .ref xli, .ref xty, .ref xen, .ref xtl, .int vsg, .int vus, .int vrw, .int vur, .ref xst, .ref xmn, .ref xdr, .ref xhe, .ref xrs, .ref xrm, .ref xrd, .ref xhr, .int vwr, .int vch, .ref xki, .ref xin, .ref xpl, .ref xle, .ref xso, .ref xva, .ref xck, .ref xci, .ref xcp, .ref xcl, .ref xcs, .ref xcv])), (xty, .inl (G.2.1 0, 6, .inl a_7)), (xen, .inl (G.2.1 0, 6, .inl a_9)), (xtl, .inl (G.2.1 0, 6, .inl gtl))] := hD
            refine lv_aload_n hx hb d_Md_table_70 rfl (lv_at hl 0 rfl) ?_
            refine va_get (D := G.1) (ci := 2) (v := .ref xtl) (C := R_Md) (T := T_Md) (N := 37) hx hb hts in_Md hown hK hP 0 rfl rfl 10 (by decide) (hts _ fl_Md_29) (fun _ h9 => h9) rfl d_Md_table_71 ?_
            refine lv_aload_n hx hb d_Md_table_74 rfl (lv_at hl 0 rfl) ?_
            refine va_get (D := G.1) (ci := 2) (v := .int vta) (C := R_Md) (T := T_Md) (N := 37) hx hb hts in_Md hown hK hP 0 rfl rfl 3 (by decide) (hts _ fl_Md_102) (fun _ h9 => h9) rfl d_Md_table_75 ?_
            refine lv_iload_n hx hb d_Md_table_78 rfl (lv_at hl 3 rfl) ?_
            obtain ⟨h_10, hw⟩ := hw
            obtain ⟨a_11, ea_11⟩ : ∃ z, z = upd gtl vta.toNatClampNeg lim := ⟨_, rfl⟩
            replace hw := hw a_11 ea_11
            refine va_iast hx hb hK hP hD hS 3 0 rfl rfl h_10 d_Md_table_79 (fun H locs hP hD hS => ?_)
            rw [← ea_11] at hP hD
            have hP : va_P G.1 vwC [(h, .inr (2, [.int 0, .int vtp, .int vme, .int vta, .int vpl, .int vel, .ref xpg, .ref xli, .ref xty, .ref xen, .ref xtl, .int vsg, .int vus, .int vrw, .int vur, .ref xst, .ref xmn, .ref xdr, .ref xhe, .ref xrs, .ref xrm, .ref xrd, .ref xhr, .int vwr, .int vch, .ref xki, .ref xin, .ref xpl, .ref xle, .ref xso, .ref xva, .ref xck, .ref xci, .ref xcp, .ref xcl, .ref xcs, .ref xcv])), (xty, .inl (G.2.1 0, 6, .inl a_7)), (xen, .inl (G.2.1 0, 6, .inl a_9)), (xtl, .inl (G.2.1 0, 6, .inl a_11))] H := hP
            have hD : va_D A [(h, .inr (2, [.int 0, .int vtp, .int vme, .int vta, .int vpl, .int vel, .ref xpg, .ref xli, .ref xty, .ref xen, .ref xtl, .int vsg, .int vus, .int vrw, .int vur, .ref xst, .ref xmn, .ref xdr, .ref xhe, .ref xrs, .ref xrm, .ref xrd, .ref xhr, .int vwr, .int vch, .ref xki, .ref xin, .ref xpl, .ref xle, .ref xso, .ref xva, .ref xck, .ref xci, .ref xcp, .ref xcl, .ref xcs, .ref xcv])), (xty, .inl (G.2.1 0, 6, .inl a_7)), (xen, .inl (G.2.1 0, 6, .inl a_9)), (xtl, .inl (G.2.1 0, 6, .inl a_11))] := hD
            refine lv_aload_n hx hb d_Md_table_80 rfl (lv_at hl 0 rfl) ?_
            refine lv_dup hx hb d_Md_table_81 rfl ?_
            refine va_get (D := G.1) (ci := 2) (v := .int vel) (C := R_Md) (T := T_Md) (N := 37) hx hb hts in_Md hown hK hP 0 rfl rfl 5 (by decide) (hts _ fl_Md_13) (fun _ h9 => h9) rfl d_Md_table_82 ?_
            refine lv_iload_n hx hb d_Md_table_85 rfl (lv_at hl 2 rfl) ?_
            refine lv_isub hx hb d_Md_table_86 ?_
            refine lv_topi (fun x_12 ex_12 => ?_)
            replace hw := hw x_12 ex_12
            refine va_put (D := G.1) (ci := 2) (v := .int x_12) (ty := (.int)) (C := R_Md) (T := T_Md) (N := 37) hx hb hts in_Md ty_Md tk_Md nm_Md hown hK hP hD hS 0 rfl rfl 5 (by decide) (hts _ fl_Md_13) (fun _ h9 => h9) rfl (by decide +kernel) rfl rfl (Nat.le_of_ble_eq_true rfl) d_Md_table_87 (fun H locs hP hD hS => ?_)
            have hP : va_P G.1 vwC [(h, .inr (2, [.int 0, .int vtp, .int vme, .int vta, .int vpl, .int x_12, .ref xpg, .ref xli, .ref xty, .ref xen, .ref xtl, .int vsg, .int vus, .int vrw, .int vur, .ref xst, .ref xmn, .ref xdr, .ref xhe, .ref xrs, .ref xrm, .ref xrd, .ref xhr, .int vwr, .int vch, .ref xki, .ref xin, .ref xpl, .ref xle, .ref xso, .ref xva, .ref xck, .ref xci, .ref xcp, .ref xcl, .ref xcs, .ref xcv])), (xty, .inl (G.2.1 0, 6, .inl a_7)), (xen, .inl (G.2.1 0, 6, .inl a_9)), (xtl, .inl (G.2.1 0, 6, .inl a_11))] H := hP
            have hD : va_D A [(h, .inr (2, [.int 0, .int vtp, .int vme, .int vta, .int vpl, .int x_12, .ref xpg, .ref xli, .ref xty, .ref xen, .ref xtl, .int vsg, .int vus, .int vrw, .int vur, .ref xst, .ref xmn, .ref xdr, .ref xhe, .ref xrs, .ref xrm, .ref xrd, .ref xhr, .int vwr, .int vch, .ref xki, .ref xin, .ref xpl, .ref xle, .ref xso, .ref xva, .ref xck, .ref xci, .ref xcp, .ref xcl, .ref xcs, .ref xcv])), (xty, .inl (G.2.1 0, 6, .inl a_7)), (xen, .inl (G.2.1 0, 6, .inl a_9)), (xtl, .inl (G.2.1 0, 6, .inl a_11))] := hD
            refine lv_aload_n hx hb d_Md_table_90 rfl (lv_at hl 0 rfl) ?_
            refine lv_dup hx hb d_Md_table_91 rfl ?_
            refine va_get (D := G.1) (ci := 2) (v := .int vta) (C := R_Md) (T := T_Md) (N := 37) hx hb hts in_Md hown hK hP 0 rfl rfl 3 (by decide) (hts _ fl_Md_102) (fun _ h9 => h9) rfl d_Md_table_92 ?_
            refine lv_iconst (v := 1) hx hb d_Md_table_95 (by decide) ?_
            refine lv_iadd hx hb d_Md_table_96 ?_
            refine lv_topi (fun x_13 ex_13 => ?_)
            replace hw := hw x_13 ex_13
            refine va_put (D := G.1) (ci := 2) (v := .int x_13) (ty := (.int)) (C := R_Md) (T := T_Md) (N := 37) hx hb hts in_Md ty_Md tk_Md nm_Md hown hK hP hD hS 0 rfl rfl 3 (by decide) (hts _ fl_Md_102) (fun _ h9 => h9) rfl (by decide +kernel) rfl rfl (Nat.le_of_ble_eq_true rfl) d_Md_table_97 (fun H locs hP hD hS => ?_)
            have hP : va_P G.1 vwC [(h, .inr (2, [.int 0, .int vtp, .int vme, .int x_13, .int vpl, .int x_12, .ref xpg, .ref xli, .ref xty, .ref xen, .ref xtl, .int vsg, .int vus, .int vrw, .int vur, .ref xst, .ref xmn, .ref xdr, .ref xhe, .ref xrs, .ref xrm, .ref xrd, .ref xhr, .int vwr, .int vch, .ref xki, .ref xin, .ref xpl, .ref xle, .ref xso, .ref xva, .ref xck, .ref xci, .ref xcp, .ref xcl, .ref xcs, .ref xcv])), (xty, .inl (G.2.1 0, 6, .inl a_7)), (xen, .inl (G.2.1 0, 6, .inl a_9)), (xtl, .inl (G.2.1 0, 6, .inl a_11))] H := hP
            have hD : va_D A [(h, .inr (2, [.int 0, .int vtp, .int vme, .int x_13, .int vpl, .int x_12, .ref xpg, .ref xli, .ref xty, .ref xen, .ref xtl, .int vsg, .int vus, .int vrw, .int vur, .ref xst, .ref xmn, .ref xdr, .ref xhe, .ref xrs, .ref xrm, .ref xrd, .ref xhr, .int vwr, .int vch, .ref xki, .ref xin, .ref xpl, .ref xle, .ref xso, .ref xva, .ref xck, .ref xci, .ref xcp, .ref xcl, .ref xcs, .ref xcv])), (xty, .inl (G.2.1 0, 6, .inl a_7)), (xen, .inl (G.2.1 0, 6, .inl a_9)), (xtl, .inl (G.2.1 0, 6, .inl a_11))] := hD
            refine lv_aload_n hx hb d_Md_table_100 rfl (lv_at hl 0 rfl) ?_
            refine va_get (D := G.1) (ci := 2) (v := .int x_13) (C := R_Md) (T := T_Md) (N := 37) hx hb hts in_Md hown hK hP 0 rfl rfl 3 (by decide) (hts _ fl_Md_102) (fun _ h9 => h9) rfl d_Md_table_101 ?_
            refine lv_iconst (v := 1) hx hb d_Md_table_104 (by decide) ?_
            refine lv_isub hx hb d_Md_table_105 ?_
            exact W.iret (v := x_13 - 1) hx hb hr (fun t ht hW => ⟨⟨x_13 - 1, (0, x_13, x_12, a_7, a_9, a_11), rfl, hw, by have h9 := hP; rw [← ht] at h9; exact h9⟩, hS.F ht⟩) hS.2.2 d_Md_table_106
          · replace hw := hw.2 c_5
            refine lv_iconst (v := (-1)) hx hb d_Md_table_48 (by decide) ?_
            exact W.iret (v := (-1)) hx hb hr (fun t ht hW => ⟨⟨(-1), (0, vta, vel, gty, gen, gtl), rfl, hw, by have h9 := hP; rw [← ht] at h9; exact h9⟩, hS.F ht⟩) hS.2.2 d_Md_table_49
    · replace hw := hw.2 c_2
      refine lv_iload_n hx hb d_Md_table_20 rfl (lv_at hl 1 rfl) ?_
      refine lv_bipush (v := 111) hx hb d_Md_table_21 (by decide) ?_
      refine lv_icmp_ne (tgt := 48) hx hb d_Md_table_23 (by decide) (fun c_14 => ?_) (fun c_14 => ?_)
      · replace hw := hw.1 c_14
        refine lv_iconst (v := (-1)) hx hb d_Md_table_48 (by decide) ?_
        exact W.iret (v := (-1)) hx hb hr (fun t ht hW => ⟨⟨(-1), (0, vta, vel, gty, gen, gtl), rfl, hw, by have h9 := hP; rw [← ht] at h9; exact h9⟩, hS.F ht⟩) hS.2.2 d_Md_table_49
      · replace hw := hw.2 c_14
        refine lv_iload_n hx hb d_Md_table_26 rfl (lv_at hl 2 rfl) ?_
        refine lv_if_lt (tgt := 48) hx hb d_Md_table_27 (by decide) (fun c_15 => ?_) (fun c_15 => ?_)
        · replace hw := hw.1 c_15
          refine lv_iconst (v := (-1)) hx hb d_Md_table_48 (by decide) ?_
          exact W.iret (v := (-1)) hx hb hr (fun t ht hW => ⟨⟨(-1), (0, vta, vel, gty, gen, gtl), rfl, hw, by have h9 := hP; rw [← ht] at h9; exact h9⟩, hS.F ht⟩) hS.2.2 d_Md_table_49
        · replace hw := hw.2 c_15
          refine lv_iload_n hx hb d_Md_table_30 rfl (lv_at hl 2 rfl) ?_
          refine lv_i2l (v := en.toInt64) hx hb d_Md_table_31 rfl ?_
          refine lv_iload_n hx hb d_Md_table_32 rfl (lv_at hl 3 rfl) ?_
          have hPc := hP.sub (ws' := []) [] rfl
          refine pu_l (va_runS (As := [.int lim]) (rest := [.long en.toInt64]) ⟨hx, hb, hml, hown, hts⟩ (c_Md_wide l G lim) (va_cwS 1 hts (gi_S ml_Md_123 sm_Md_wide ini_Md co_Md_wide) rfl rfl rfl (by decide +kernel) ⟨Nat.le_of_ble_eq_true rfl, Nat.le_of_ble_eq_true rfl⟩) ⟨cp_blind, cp_pre hcx hS hPc⟩ rfl rfl hl.1 rfl (lv_room (Nat.le_of_ble_eq_true rfl)) d_Md_table_33 ⟨Nat.le_of_ble_eq_true rfl, Nat.le_of_ble_eq_true rfl⟩) hS hP (fun H locs hP hS => ?_)
          refine W.lcmp hx hb d_Md_table_36 ?_
          refine lv_if_gt (tgt := 48) hx hb d_Md_table_37 (by decide) (fun c_16 => ?_) (fun c_16 => ?_)
          · replace hw := hw.1 c_16
            refine lv_iconst (v := (-1)) hx hb d_Md_table_48 (by decide) ?_
            exact W.iret (v := (-1)) hx hb hr (fun t ht hW => ⟨⟨(-1), (0, vta, vel, gty, gen, gtl), rfl, hw, by have h9 := hP; rw [← ht] at h9; exact h9⟩, hS.F ht⟩) hS.2.2 d_Md_table_49
          · replace hw := hw.2 c_16
            refine lv_iload_n hx hb d_Md_table_40 rfl (lv_at hl 2 rfl) ?_
            refine lv_aload_n hx hb d_Md_table_41 rfl (lv_at hl 0 rfl) ?_
            refine va_get (D := G.1) (ci := 2) (v := .int vel) (C := R_Md) (T := T_Md) (N := 37) hx hb hts in_Md hown hK hP 0 rfl rfl 5 (by decide) (hts _ fl_Md_13) (fun _ h9 => h9) rfl d_Md_table_42 ?_
            refine lv_icmp_le (tgt := 50) hx hb d_Md_table_45 (by decide) (fun c_17 => ?_) (fun c_17 => ?_)
            · replace hw := hw.1 c_17
              refine lv_aload_n hx hb d_Md_table_50 rfl (lv_at hl 0 rfl) ?_
              refine va_get (D := G.1) (ci := 2) (v := .ref xty) (C := R_Md) (T := T_Md) (N := 37) hx hb hts in_Md hown hK hP 0 rfl rfl 8 (by decide) (hts _ fl_Md_23) (fun _ h9 => h9) rfl d_Md_table_51 ?_
              refine lv_aload_n hx hb d_Md_table_54 rfl (lv_at hl 0 rfl) ?_
              refine va_get (D := G.1) (ci := 2) (v := .int vta) (C := R_Md) (T := T_Md) (N := 37) hx hb hts in_Md hown hK hP 0 rfl rfl 3 (by decide) (hts _ fl_Md_102) (fun _ h9 => h9) rfl d_Md_table_55 ?_
              refine lv_iload_n hx hb d_Md_table_58 rfl (lv_at hl 1 rfl) ?_
              obtain ⟨h_18, hw⟩ := hw
              obtain ⟨a_19, ea_19⟩ : ∃ z, z = upd gty vta.toNatClampNeg typ := ⟨_, rfl⟩
              replace hw := hw a_19 ea_19
              refine va_iast hx hb hK hP hD hS 1 0 rfl rfl h_18 d_Md_table_59 (fun H locs hP hD hS => ?_)
              rw [← ea_19] at hP hD
              have hP : va_P G.1 vwC [(h, .inr (2, [.int 0, .int vtp, .int vme, .int vta, .int vpl, .int vel, .ref xpg, .ref xli, .ref xty, .ref xen, .ref xtl, .int vsg, .int vus, .int vrw, .int vur, .ref xst, .ref xmn, .ref xdr, .ref xhe, .ref xrs, .ref xrm, .ref xrd, .ref xhr, .int vwr, .int vch, .ref xki, .ref xin, .ref xpl, .ref xle, .ref xso, .ref xva, .ref xck, .ref xci, .ref xcp, .ref xcl, .ref xcs, .ref xcv])), (xty, .inl (G.2.1 0, 6, .inl a_19)), (xen, .inl (G.2.1 0, 6, .inl gen)), (xtl, .inl (G.2.1 0, 6, .inl gtl))] H := hP
              have hD : va_D A [(h, .inr (2, [.int 0, .int vtp, .int vme, .int vta, .int vpl, .int vel, .ref xpg, .ref xli, .ref xty, .ref xen, .ref xtl, .int vsg, .int vus, .int vrw, .int vur, .ref xst, .ref xmn, .ref xdr, .ref xhe, .ref xrs, .ref xrm, .ref xrd, .ref xhr, .int vwr, .int vch, .ref xki, .ref xin, .ref xpl, .ref xle, .ref xso, .ref xva, .ref xck, .ref xci, .ref xcp, .ref xcl, .ref xcs, .ref xcv])), (xty, .inl (G.2.1 0, 6, .inl a_19)), (xen, .inl (G.2.1 0, 6, .inl gen)), (xtl, .inl (G.2.1 0, 6, .inl gtl))] := hD
              refine lv_aload_n hx hb d_Md_table_60 rfl (lv_at hl 0 rfl) ?_
              refine va_get (D := G.1) (ci := 2) (v := .ref xen) (C := R_Md) (T := T_Md) (N := 37) hx hb hts in_Md hown hK hP 0 rfl rfl 9 (by decide) (hts _ fl_Md_26) (fun _ h9 => h9) rfl d_Md_table_61 ?_
              refine lv_aload_n hx hb d_Md_table_64 rfl (lv_at hl 0 rfl) ?_
              refine va_get (D := G.1) (ci := 2) (v := .int vta) (C := R_Md) (T := T_Md) (N := 37) hx hb hts in_Md hown hK hP 0 rfl rfl 3 (by decide) (hts _ fl_Md_102) (fun _ h9 => h9) rfl d_Md_table_65 ?_
              refine lv_iload_n hx hb d_Md_table_68 rfl (lv_at hl 2 rfl) ?_
              obtain ⟨h_20, hw⟩ := hw
              obtain ⟨a_21, ea_21⟩ : ∃ z, z = upd gen vta.toNatClampNeg en := ⟨_, rfl⟩
              replace hw := hw a_21 ea_21
              refine va_iast hx hb hK hP hD hS 2 0 rfl rfl h_20 d_Md_table_69 (fun H locs hP hD hS => ?_)
              rw [← ea_21] at hP hD
              have hP : va_P G.1 vwC [(h, .inr (2, [.int 0, .int vtp, .int vme, .int vta, .int vpl, .int vel, .ref xpg, .ref xli, .ref xty, .ref xen, .ref xtl, .int vsg, .int vus, .int vrw, .int vur, .ref xst, .ref xmn, .ref xdr, .ref xhe, .ref xrs, .ref xrm, .ref xrd, .ref xhr, .int vwr, .int vch, .ref xki, .ref xin, .ref xpl, .ref xle, .ref xso, .ref xva, .ref xck, .ref xci, .ref xcp, .ref xcl, .ref xcs, .ref xcv])), (xty, .inl (G.2.1 0, 6, .inl a_19)), (xen, .inl (G.2.1 0, 6, .inl a_21)), (xtl, .inl (G.2.1 0, 6, .inl gtl))] H := hP
              have hD : va_D A [(h, .inr (2, [.int 0, .int vtp, .int vme, .int vta, .int vpl, .int vel, .ref xpg, .ref xli, .ref xty, .ref xen, .ref xtl, .int vsg, .int vus, .int vrw, .int vur, .ref xst, .ref xmn, .ref xdr, .ref xhe, .ref xrs, .ref xrm, .ref xrd, .ref xhr, .int vwr, .int vch, .ref xki, .ref xin, .ref xpl, .ref xle, .ref xso, .ref xva, .ref xck, .ref xci, .ref xcp, .ref xcl, .ref xcs, .ref xcv])), (xty, .inl (G.2.1 0, 6, .inl a_19)), (xen, .inl (G.2.1 0, 6, .inl a_21)), (xtl, .inl (G.2.1 0, 6, .inl gtl))] := hD
              refine lv_aload_n hx hb d_Md_table_70 rfl (lv_at hl 0 rfl) ?_
              refine va_get (D := G.1) (ci := 2) (v := .ref xtl) (C := R_Md) (T := T_Md) (N := 37) hx hb hts in_Md hown hK hP 0 rfl rfl 10 (by decide) (hts _ fl_Md_29) (fun _ h9 => h9) rfl d_Md_table_71 ?_
              refine lv_aload_n hx hb d_Md_table_74 rfl (lv_at hl 0 rfl) ?_
              refine va_get (D := G.1) (ci := 2) (v := .int vta) (C := R_Md) (T := T_Md) (N := 37) hx hb hts in_Md hown hK hP 0 rfl rfl 3 (by decide) (hts _ fl_Md_102) (fun _ h9 => h9) rfl d_Md_table_75 ?_
              refine lv_iload_n hx hb d_Md_table_78 rfl (lv_at hl 3 rfl) ?_
              obtain ⟨h_22, hw⟩ := hw
              obtain ⟨a_23, ea_23⟩ : ∃ z, z = upd gtl vta.toNatClampNeg lim := ⟨_, rfl⟩
              replace hw := hw a_23 ea_23
              refine va_iast hx hb hK hP hD hS 3 0 rfl rfl h_22 d_Md_table_79 (fun H locs hP hD hS => ?_)
              rw [← ea_23] at hP hD
              have hP : va_P G.1 vwC [(h, .inr (2, [.int 0, .int vtp, .int vme, .int vta, .int vpl, .int vel, .ref xpg, .ref xli, .ref xty, .ref xen, .ref xtl, .int vsg, .int vus, .int vrw, .int vur, .ref xst, .ref xmn, .ref xdr, .ref xhe, .ref xrs, .ref xrm, .ref xrd, .ref xhr, .int vwr, .int vch, .ref xki, .ref xin, .ref xpl, .ref xle, .ref xso, .ref xva, .ref xck, .ref xci, .ref xcp, .ref xcl, .ref xcs, .ref xcv])), (xty, .inl (G.2.1 0, 6, .inl a_19)), (xen, .inl (G.2.1 0, 6, .inl a_21)), (xtl, .inl (G.2.1 0, 6, .inl a_23))] H := hP
              have hD : va_D A [(h, .inr (2, [.int 0, .int vtp, .int vme, .int vta, .int vpl, .int vel, .ref xpg, .ref xli, .ref xty, .ref xen, .ref xtl, .int vsg, .int vus, .int vrw, .int vur, .ref xst, .ref xmn, .ref xdr, .ref xhe, .ref xrs, .ref xrm, .ref xrd, .ref xhr, .int vwr, .int vch, .ref xki, .ref xin, .ref xpl, .ref xle, .ref xso, .ref xva, .ref xck, .ref xci, .ref xcp, .ref xcl, .ref xcs, .ref xcv])), (xty, .inl (G.2.1 0, 6, .inl a_19)), (xen, .inl (G.2.1 0, 6, .inl a_21)), (xtl, .inl (G.2.1 0, 6, .inl a_23))] := hD
              refine lv_aload_n hx hb d_Md_table_80 rfl (lv_at hl 0 rfl) ?_
              refine lv_dup hx hb d_Md_table_81 rfl ?_
              refine va_get (D := G.1) (ci := 2) (v := .int vel) (C := R_Md) (T := T_Md) (N := 37) hx hb hts in_Md hown hK hP 0 rfl rfl 5 (by decide) (hts _ fl_Md_13) (fun _ h9 => h9) rfl d_Md_table_82 ?_
              refine lv_iload_n hx hb d_Md_table_85 rfl (lv_at hl 2 rfl) ?_
              refine lv_isub hx hb d_Md_table_86 ?_
              refine lv_topi (fun x_24 ex_24 => ?_)
              replace hw := hw x_24 ex_24
              refine va_put (D := G.1) (ci := 2) (v := .int x_24) (ty := (.int)) (C := R_Md) (T := T_Md) (N := 37) hx hb hts in_Md ty_Md tk_Md nm_Md hown hK hP hD hS 0 rfl rfl 5 (by decide) (hts _ fl_Md_13) (fun _ h9 => h9) rfl (by decide +kernel) rfl rfl (Nat.le_of_ble_eq_true rfl) d_Md_table_87 (fun H locs hP hD hS => ?_)
              have hP : va_P G.1 vwC [(h, .inr (2, [.int 0, .int vtp, .int vme, .int vta, .int vpl, .int x_24, .ref xpg, .ref xli, .ref xty, .ref xen, .ref xtl, .int vsg, .int vus, .int vrw, .int vur, .ref xst, .ref xmn, .ref xdr, .ref xhe, .ref xrs, .ref xrm, .ref xrd, .ref xhr, .int vwr, .int vch, .ref xki, .ref xin, .ref xpl, .ref xle, .ref xso, .ref xva, .ref xck, .ref xci, .ref xcp, .ref xcl, .ref xcs, .ref xcv])), (xty, .inl (G.2.1 0, 6, .inl a_19)), (xen, .inl (G.2.1 0, 6, .inl a_21)), (xtl, .inl (G.2.1 0, 6, .inl a_23))] H := hP
              have hD : va_D A [(h, .inr (2, [.int 0, .int vtp, .int vme, .int vta, .int vpl, .int x_24, .ref xpg, .ref xli, .ref xty, .ref xen, .ref xtl, .int vsg, .int vus, .int vrw, .int vur, .ref xst, .ref xmn, .ref xdr, .ref xhe, .ref xrs, .ref xrm, .ref xrd, .ref xhr, .int vwr, .int vch, .ref xki, .ref xin, .ref xpl, .ref xle, .ref xso, .ref xva, .ref xck, .ref xci, .ref xcp, .ref xcl, .ref xcs, .ref xcv])), (xty, .inl (G.2.1 0, 6, .inl a_19)), (xen, .inl (G.2.1 0, 6, .inl a_21)), (xtl, .inl (G.2.1 0, 6, .inl a_23))] := hD
              refine lv_aload_n hx hb d_Md_table_90 rfl (lv_at hl 0 rfl) ?_
              refine lv_dup hx hb d_Md_table_91 rfl ?_
              refine va_get (D := G.1) (ci := 2) (v := .int vta) (C := R_Md) (T := T_Md) (N := 37) hx hb hts in_Md hown hK hP 0 rfl rfl 3 (by decide) (hts _ fl_Md_102) (fun _ h9 => h9) rfl d_Md_table_92 ?_
              refine lv_iconst (v := 1) hx hb d_Md_table_95 (by decide) ?_
              refine lv_iadd hx hb d_Md_table_96 ?_
              refine lv_topi (fun x_25 ex_25 => ?_)
              replace hw := hw x_25 ex_25
              refine va_put (D := G.1) (ci := 2) (v := .int x_25) (ty := (.int)) (C := R_Md) (T := T_Md) (N := 37) hx hb hts in_Md ty_Md tk_Md nm_Md hown hK hP hD hS 0 rfl rfl 3 (by decide) (hts _ fl_Md_102) (fun _ h9 => h9) rfl (by decide +kernel) rfl rfl (Nat.le_of_ble_eq_true rfl) d_Md_table_97 (fun H locs hP hD hS => ?_)
              have hP : va_P G.1 vwC [(h, .inr (2, [.int 0, .int vtp, .int vme, .int x_25, .int vpl, .int x_24, .ref xpg, .ref xli, .ref xty, .ref xen, .ref xtl, .int vsg, .int vus, .int vrw, .int vur, .ref xst, .ref xmn, .ref xdr, .ref xhe, .ref xrs, .ref xrm, .ref xrd, .ref xhr, .int vwr, .int vch, .ref xki, .ref xin, .ref xpl, .ref xle, .ref xso, .ref xva, .ref xck, .ref xci, .ref xcp, .ref xcl, .ref xcs, .ref xcv])), (xty, .inl (G.2.1 0, 6, .inl a_19)), (xen, .inl (G.2.1 0, 6, .inl a_21)), (xtl, .inl (G.2.1 0, 6, .inl a_23))] H := hP
              have hD : va_D A [(h, .inr (2, [.int 0, .int vtp, .int vme, .int x_25, .int vpl, .int x_24, .ref xpg, .ref xli, .ref xty, .ref xen, .ref xtl, .int vsg, .int vus, .int vrw, .int vur, .ref xst, .ref xmn, .ref xdr, .ref xhe, .ref xrs, .ref xrm, .ref xrd, .ref xhr, .int vwr, .int vch, .ref xki, .ref xin, .ref xpl, .ref xle, .ref xso, .ref xva, .ref xck, .ref xci, .ref xcp, .ref xcl, .ref xcs, .ref xcv])), (xty, .inl (G.2.1 0, 6, .inl a_19)), (xen, .inl (G.2.1 0, 6, .inl a_21)), (xtl, .inl (G.2.1 0, 6, .inl a_23))] := hD
              refine lv_aload_n hx hb d_Md_table_100 rfl (lv_at hl 0 rfl) ?_
              refine va_get (D := G.1) (ci := 2) (v := .int x_25) (C := R_Md) (T := T_Md) (N := 37) hx hb hts in_Md hown hK hP 0 rfl rfl 3 (by decide) (hts _ fl_Md_102) (fun _ h9 => h9) rfl d_Md_table_101 ?_
              refine lv_iconst (v := 1) hx hb d_Md_table_104 (by decide) ?_
              refine lv_isub hx hb d_Md_table_105 ?_
              exact W.iret (v := x_25 - 1) hx hb hr (fun t ht hW => ⟨⟨x_25 - 1, (0, x_25, x_24, a_19, a_21, a_23), rfl, hw, by have h9 := hP; rw [← ht] at h9; exact h9⟩, hS.F ht⟩) hS.2.2 d_Md_table_106
            · replace hw := hw.2 c_17
              refine lv_iconst (v := (-1)) hx hb d_Md_table_48 (by decide) ?_
              exact W.iret (v := (-1)) hx hb hr (fun t ht hW => ⟨⟨(-1), (0, vta, vel, gty, gen, gtl), rfl, hw, by have h9 := hP; rw [← ht] at h9; exact h9⟩, hS.F ht⟩) hS.2.2 d_Md_table_49
def wp_Md_trap (post : Int32 → Int32 → Prop) (vth : Int32) (vtp : Int32) (vme : Int32) (vta : Int32) (vpl : Int32) (vel : Int32) (vsg : Int32) (vus : Int32) (vrw : Int32) (vur : Int32) (vwr : Int32) (vch : Int32) : Prop := post vtp 0
set_option maxHeartbeats 4000000 in
set_option maxRecDepth 100000 in
theorem t_Md_trap (l : Launch) (G : cxT) (h : Nat) (xpg : Nat) (xli : Nat) (xty : Nat) (xen : Nat) (xtl : Nat) (xst : Nat) (xmn : Nat) (xdr : Nat) (xhe : Nat) (xrs : Nat) (xrm : Nat) (xrd : Nat) (xhr : Nat) (xki : Nat) (xin : Nat) (xpl : Nat) (xle : Nat) (xso : Nat) (xva : Nat) (xck : Nat) (xci : Nat) (xcp : Nat) (xcl : Nat) (xcs : Nat) (xcv : Nat) (vth : Int32) (vtp : Int32) (vme : Int32) (vta : Int32) (vpl : Int32) (vel : Int32) (vsg : Int32) (vus : Int32) (vrw : Int32) (vur : Int32) (vwr : Int32) (vch : Int32) (sz : Nat) (post : Int32 → Int32 → Prop) (hw : wp_Md_trap post vth vtp vme vta vpl vel vsg vus vrw vur vwr vch) : Met l y_Md_trap [.code y_Md_trap b_Md_trap 1 (some .int)] ({ frames := 4, cells := 0, slots := 0, locals := 140 } : Room) (cm G [.ref h] [(h, .inr (2, [.int vth, .int vtp, .int vme, .int vta, .int vpl, .int vel, .ref xpg, .ref xli, .ref xty, .ref xen, .ref xtl, .int vsg, .int vus, .int vrw, .int vur, .ref xst, .ref xmn, .ref xdr, .ref xhe, .ref xrs, .ref xrm, .ref xrd, .ref xhr, .int vwr, .int vch, .ref xki, .ref xin, .ref xpl, .ref xle, .ref xso, .ref xva, .ref xck, .ref xci, .ref xcp, .ref xcl, .ref xcs, .ref xcv]))] sz) (va_Qi post (fun u t => va_P G.1 vwC [(h, .inr (2, [.int u, .int vtp, .int vme, .int vta, .int vpl, .int vel, .ref xpg, .ref xli, .ref xty, .ref xen, .ref xtl, .int vsg, .int vus, .int vrw, .int vur, .ref xst, .ref xmn, .ref xdr, .ref xhe, .ref xrs, .ref xrm, .ref xrd, .ref xhr, .int vwr, .int vch, .ref xki, .ref xin, .ref xpl, .ref xle, .ref xso, .ref xva, .ref xck, .ref xci, .ref xcp, .ref xcl, .ref xcs, .ref xcv]))] t.heap) (va_A [(h, .inr (2, [.int vth, .int vtp, .int vme, .int vta, .int vpl, .int vel, .ref xpg, .ref xli, .ref xty, .ref xen, .ref xtl, .int vsg, .int vus, .int vrw, .int vur, .ref xst, .ref xmn, .ref xdr, .ref xhe, .ref xrs, .ref xrm, .ref xrd, .ref xhr, .int vwr, .int vch, .ref xki, .ref xin, .ref xpl, .ref xle, .ref xso, .ref xva, .ref xck, .ref xci, .ref xcp, .ref xcl, .ref xcs, .ref xcv]))] sz)) 0 0 (va_A [(h, .inr (2, [.int vth, .int vtp, .int vme, .int vta, .int vpl, .int vel, .ref xpg, .ref xli, .ref xty, .ref xen, .ref xtl, .int vsg, .int vus, .int vrw, .int vur, .ref xst, .ref xmn, .ref xdr, .ref xhe, .ref xrs, .ref xrm, .ref xrd, .ref xhr, .int vwr, .int vch, .ref xki, .ref xin, .ref xpl, .ref xle, .ref xso, .ref xva, .ref xck, .ref xci, .ref xcp, .ref xcl, .ref xcs, .ref xcv]))] sz) := by
  refine Met.ofW (cc := b_Md_trap) (maxL := 1) (ret := (some .int)) (by decide +kernel) rfl ?_
  intro p e s m args below meth c s₁ B hml hv
  obtain ⟨rfl, hsz, hcx, hP, hD0⟩ := hv
  have hx := B.exec
  have hb := B.bytes
  have hr := B.returns
  have hlocks := B.notSynchronized
  have hown : s.vm.findClass R_Md = some m.cls := findClass_of_methodNamed B.named
  subst hsz
  have hD := hD0.self (sz := s.heap.size)
  generalize hAe : va_A [(h, .inr (2, [.int vth, .int vtp, .int vme, .int vta, .int vpl, .int vel, .ref xpg, .ref xli, .ref xty, .ref xen, .ref xtl, .int vsg, .int vus, .int vrw, .int vur, .ref xst, .ref xmn, .ref xdr, .ref xhe, .ref xrs, .ref xrm, .ref xrd, .ref xhr, .int vwr, .int vch, .ref xki, .ref xin, .ref xpl, .ref xle, .ref xso, .ref xva, .ref xck, .ref xci, .ref xcp, .ref xcl, .ref xcs, .ref xcv]))] s.heap.size = A at hD hcx ⊢
  have hA : ∀ q : Nat, s.heap.size ≤ q → A q := fun q h => by rw [← hAe]; exact Or.inr h
  have hS : va_S A s.heap s.heap [] := va_S.rf
  have hts := hcx.now.1 [.ref h].toArray
  have hK := hcx.now.2.1
  have hl := lv_entry ([.ref h]) (n := 1) (Nat.le_of_ble_eq_true rfl)
  rw [lg_entry_eq]
  generalize (lg_sl ([.ref h]) ++ List.replicate (1 - (lg_sl ([.ref h])).length) Slot.unset).toArray = ls at hl ⊢
  have hl : lv_has ls 1 [(0, .ref h)] := hl
  unfold wp_Md_trap at hw
  refine lv_aload_n hx hb d_Md_trap_0 rfl (lv_at hl 0 rfl) ?_
  refine lv_iconst (v := 0) hx hb d_Md_trap_1 (by decide) ?_
  refine va_put (D := G.1) (ci := 2) (v := .int 0) (ty := (.int)) (C := R_Md) (T := T_Md) (N := 37) hx hb hts in_Md ty_Md tk_Md nm_Md hown hK hP hD hS 0 rfl rfl 0 (by decide) (hts _ fl_Md_94) (fun _ h9 => h9) rfl (by decide +kernel) rfl rfl (Nat.le_of_ble_eq_true rfl) d_Md_trap_2 (fun H locs hP hD hS => ?_)
  have hP : va_P G.1 vwC [(h, .inr (2, [.int 0, .int vtp, .int vme, .int vta, .int vpl, .int vel, .ref xpg, .ref xli, .ref xty, .ref xen, .ref xtl, .int vsg, .int vus, .int vrw, .int vur, .ref xst, .ref xmn, .ref xdr, .ref xhe, .ref xrs, .ref xrm, .ref xrd, .ref xhr, .int vwr, .int vch, .ref xki, .ref xin, .ref xpl, .ref xle, .ref xso, .ref xva, .ref xck, .ref xci, .ref xcp, .ref xcl, .ref xcs, .ref xcv]))] H := hP
  have hD : va_D A [(h, .inr (2, [.int 0, .int vtp, .int vme, .int vta, .int vpl, .int vel, .ref xpg, .ref xli, .ref xty, .ref xen, .ref xtl, .int vsg, .int vus, .int vrw, .int vur, .ref xst, .ref xmn, .ref xdr, .ref xhe, .ref xrs, .ref xrm, .ref xrd, .ref xhr, .int vwr, .int vch, .ref xki, .ref xin, .ref xpl, .ref xle, .ref xso, .ref xva, .ref xck, .ref xci, .ref xcp, .ref xcl, .ref xcs, .ref xcv]))] := hD
  refine lv_aload_n hx hb d_Md_trap_5 rfl (lv_at hl 0 rfl) ?_
  refine va_get (D := G.1) (ci := 2) (v := .int vtp) (C := R_Md) (T := T_Md) (N := 37) hx hb hts in_Md hown hK hP 0 rfl rfl 1 (by decide) (hts _ fl_Md_105) (fun _ h9 => h9) rfl d_Md_trap_6 ?_
  exact W.iret (v := vtp) hx hb hr (fun t ht hW => ⟨⟨vtp, 0, rfl, hw, by have h9 := hP; rw [← ht] at h9; exact h9⟩, hS.F ht⟩) hS.2.2 d_Md_trap_9
