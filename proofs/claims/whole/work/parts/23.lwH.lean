/-! ===== the law's helpers: their tables, their words ===== -/
theorem hc_ill : Cond.castable E_ill E_ill ∈ hw4 := by decide +kernel
theorem hc_uns : Cond.castable E_uns E_uns ∈ hw4 := by decide +kernel
theorem gi_1w {y : MethodName} {bytes : ByteArray} {maxL : Nat} {ret : Option FieldType} {hh : List (Nat × Nat × Nat × Nat)} (h5 : Cond.codeWith y bytes maxL ret hh ∈ bw) : GoodIn bw [.codeWith y bytes maxL ret hh] := by
  intro w hw
  obtain rfl := List.mem_singleton.mp hw
  exact ⟨h5, good_of_word (bw_good _ h5)⟩
section CT4
variable {p : Program} {l : Launch} {e : Env} {R : Room} {s : State} {m : MethodId} {args : Array Value} {below : List Frame} {meth : Method} {c : Code} {H : Heap} {locs : List Loc} {cells slots : Nat} {Q : State → Prop}
theorem ct_1h {own name E : String} {pc a b h t : Nat} {ls : Array Slot} {rest : List Value} {q : Addr} {ce : Cell} {more : List (Nat × Nat × Nat × Nat)} (hown : s.vm.findClass own = some m.cls) (htb : c.exceptionTable.toList.map (fun h => (h.startPc, h.endPc, h.handlerPc, h.catchType)) = (a, b, h, t) :: more) (h1 : a ≤ pc) (h2 : pc < b) (h0 : t ≠ 0)
    (hlink : (Cond.classLink own t name).before args s = true) (hcast : (Cond.castable E name).before args s = true) (hcell : H[q]? = some ce) (hv : ce.vm = .none) (hcl : s.vm.findClass E = some ce.cls)
    (kk : W p l e R s m args below meth c H locs cells slots Q (F0 m h ls [.ref q])) : tr_W p l e R s m args below meth c H locs cells slots Q (F0 m pc ls rest) q := by
  obtain ⟨x, L, hL, hx, -⟩ := List.map_eq_cons_iff.mp htb
  cases hx
  exact ct_1 hown hL (by simp [covers, h1, h2]) h0 hlink hcast hcell hv hcl kk
theorem ct_2h {own n1 n2 E : String} {pc a b h t a2 b2 h' t2 : Nat} {ls : Array Slot} {rest : List Value} {q : Addr} {ce : Cell} {more : List (Nat × Nat × Nat × Nat)} (hown : s.vm.findClass own = some m.cls) (htb : c.exceptionTable.toList.map (fun h => (h.startPc, h.endPc, h.handlerPc, h.catchType)) = (a, b, h, t) :: (a2, b2, h', t2) :: more) (h1 : a ≤ pc) (h2 : pc < b) (h0 : t ≠ 0) (g1 : a2 ≤ pc) (g2 : pc < b2) (g0 : t2 ≠ 0)
    (hl1 : (Cond.classLink own t n1).before args s = true) (hn : va_Nc E n1 s) (hl2 : (Cond.classLink own t2 n2).before args s = true) (hcast : (Cond.castable E n2).before args s = true) (hcell : H[q]? = some ce) (hv : ce.vm = .none) (hcl : s.vm.findClass E = some ce.cls)
    (kk : W p l e R s m args below meth c H locs cells slots Q (F0 m h' ls [.ref q])) : tr_W p l e R s m args below meth c H locs cells slots Q (F0 m pc ls rest) q := by
  obtain ⟨x, L, hL, hx, hm⟩ := List.map_eq_cons_iff.mp htb
  obtain ⟨y, L2, hL2, hy, -⟩ := List.map_eq_cons_iff.mp hm
  cases hx
  cases hy
  exact ct_2 hown (hL.trans (by rw [hL2])) (by simp [covers, h1, h2]) h0 (by simp [covers, g1, g2]) g0 hl1 hn hl2 hcast hcell hv hcl kk
end CT4
section PW
variable {p : Program} {l : Launch} {e : Env} {R : Room} {s : State} {m : MethodId} {args : Array Value} {below : List Frame} {meth : Method} {c : Code} {H : Heap} {locs : List Loc} {cells slots : Nat} {Q : State → Prop}
variable {mc ms pc : Nat} {A0 : Nat → Prop} {H0 : Heap} {D : va_G} {cl : List vw_C} {ws wc : va_W} {rest st0 : List Value} {a : Array Value} {ls : Array Slot}
theorem pw_i {post : Int32 → Prop} (hr : va_Run p l e R s m args below meth c H locs cells slots 0 0 (F0 m pc ls st0) rest (va_Qi (fun r (_ : Unit) => post r) (fun _ _ => True) (fun _ => False) a) (fun _ => False)) (hS : va_S A0 H0 H locs) (hP : va_P D cl ws H)
    (kk : ∀ (r : Int32) (H1 : Heap) (locs1 : List Loc), post r → va_P D cl ws H1 → va_S A0 H0 H1 locs1 → W p l e R s m args below meth c H1 locs1 cells slots Q (F0 m (pc + 3) ls (.int r :: rest))) : W p l e R s m args below meth c H locs cells slots Q (F0 m pc ls st0) := by
  refine va_calli hr hS (fun _ _ h => h.elim) (fun _ h => h.elim) (fun r u t H1 locs1 _ _ hp _ _ hk hS1 => ?_)
  exact kk r H1 locs1 hp (hP.kept fun k q hq => hk q.1 (hP k q hq).lt (fun h => h)) hS1
theorem ip_l {S : Type} {post : Int64 → S → Prop} {w1 : S → va_W} (hr : va_Run p l e R s m args below meth c H locs cells slots mc ms (F0 m pc ls st0) rest (va_Ql post (fun u t => va_P D cl (w1 u) t.heap) (va_A wc H.size) a) (va_A wc H.size)) (hS : va_S A0 H0 H locs) (hP : va_P D cl ws H) (hD : va_D A0 ws) (hA : ∀ q, H0.size ≤ q → A0 q)
    (is : List Nat) (hC : is.map (fun i => ws[i]?) = wc.map some) (had : ∀ u, (w1 u).map Prod.fst = wc.map Prod.fst)
    (kk : ∀ (r : Int64) (u : S) (H1 : Heap) (locs1 : List Loc), post r u → va_P D cl (setL ws is (w1 u)) H1 → va_D A0 (setL ws is (w1 u)) → va_S A0 H0 H1 locs1 → W p l e R s m args below meth c H1 locs1 (cells + mc) (slots + ms) Q (F0 m (pc + 3) ls (.long r :: rest))) : W p l e R s m args below meth c H locs cells slots Q (F0 m pc ls st0) := by
  have hF := va_free hD hS hA is hC
  refine va_calll hr hS (fun q _ h => hF q h) hF (fun r u t H1 locs1 ht _ hp hB _ hk hS1 => ?_)
  rw [ht] at hB
  obtain ⟨j1, j2⟩ := jn_set hP hD is hC (had u) hk hB
  exact kk r u H1 locs1 hp j1 j2 hS1
end PW

def wp_Lw_load (post : Int32 → (Int32 × (Nat → Int64)) → Prop) (trp : Int32) (mC : Int32) (mU : Int32) (mS : Nat → Int32) (mL : Nat → Int32) (mD : Nat → Int32) (fmb : Nat → Int32) (fo : Nat → Int64) (k : Int32) (op : Int32) (ad : Int32) (off : Int32) : Prop := wp_Pm_load (fun r_1 u_2 => (vp_in 0 1) ∧ ∀ a_5 : Nat → Int64, a_5 = vp_updL fo (0 : Int32).toNatClampNeg r_1 → (post 0 (u_2, a_5))) (fun E_3 u_2 => ((E_3 = E_ill → (post 1 (u_2, fo))) ∧ (E_3 = E_uns → (post 2 (u_2, fo))) ∧ (E_3 = E_ill ∨ E_3 = E_uns))) trp mC mU mS mL mD fmb k op ad off
set_option maxHeartbeats 4000000 in
set_option maxRecDepth 100000 in
theorem t_Lw_load (l : Launch) (hst : l.stackTraces = false) (G : cxT) (ou : Nat) (h : Nat) (m0 : Nat) (aml : Nat) (amb : Nat) (t0 : Nat) (atl : Nat) (att : Nat) (ate : Nat) (b0 : Nat) (asb : Nat) (r0 : Nat) (asr : Nat) (m1 : Nat) (m2 : Nat) (m3 : Nat) (trp : Int32) (mC : Int32) (mU : Int32) (mS : Nat → Int32) (mL : Nat → Int32) (mD : Nat → Int32) (fmb : Nat → Int32) (fo : Nat → Int64) (k : Int32) (op : Int32) (ad : Int32) (off : Int32) (sz : Nat) (post : Int32 → (Int32 × (Nat → Int64)) → Prop) (hw : wp_Lw_load post trp mC mU mS mL mD fmb fo k op ad off) : Met l y_Lw_load [.codeWith y_Lw_load b_Lw_load 7 (some .int) [(0, 13, 16, 13), (0, 13, 20, 15)]] ({ frames := 10, cells := 1, slots := 6, locals := 200 } : Room) (cm G [.ref h, .int k, .int op, .int ad, .int off, .ref ou] [(h, .inr (1, [.ref m0, .ref aml, .ref amb, .ref t0, .ref atl, .ref att, .ref ate, .ref b0, .ref asb, .ref r0, .ref asr, .int trp])), (m0, .inr (0, [.int 12288, .ref m1, .ref m2, .ref m3, .int mC, .int mU])), (m1, .inl (G.2.1 0, 6, .inl mS)), (m2, .inl (G.2.1 0, 6, .inl mL)), (m3, .inl (G.2.1 2, 6, .inl mD)), (amb, .inl (G.2.1 1, 12288, .inl fmb)), (ou, .inl (G.2.1 3, 1, .inr (.inl fo)))] sz) (va_Qi post (fun u t => va_P G.1 vwC [(h, .inr (1, [.ref m0, .ref aml, .ref amb, .ref t0, .ref atl, .ref att, .ref ate, .ref b0, .ref asb, .ref r0, .ref asr, .int u.1])), (m0, .inr (0, [.int 12288, .ref m1, .ref m2, .ref m3, .int mC, .int mU])), (m1, .inl (G.2.1 0, 6, .inl mS)), (m2, .inl (G.2.1 0, 6, .inl mL)), (m3, .inl (G.2.1 2, 6, .inl mD)), (amb, .inl (G.2.1 1, 12288, .inl fmb)), (ou, .inl (G.2.1 3, 1, .inr (.inl u.2)))] t.heap) (va_A [(h, .inr (1, [.ref m0, .ref aml, .ref amb, .ref t0, .ref atl, .ref att, .ref ate, .ref b0, .ref asb, .ref r0, .ref asr, .int trp])), (m0, .inr (0, [.int 12288, .ref m1, .ref m2, .ref m3, .int mC, .int mU])), (m1, .inl (G.2.1 0, 6, .inl mS)), (m2, .inl (G.2.1 0, 6, .inl mL)), (m3, .inl (G.2.1 2, 6, .inl mD)), (amb, .inl (G.2.1 1, 12288, .inl fmb)), (ou, .inl (G.2.1 3, 1, .inr (.inl fo)))] sz)) 1 6 (va_A [(h, .inr (1, [.ref m0, .ref aml, .ref amb, .ref t0, .ref atl, .ref att, .ref ate, .ref b0, .ref asb, .ref r0, .ref asr, .int trp])), (m0, .inr (0, [.int 12288, .ref m1, .ref m2, .ref m3, .int mC, .int mU])), (m1, .inl (G.2.1 0, 6, .inl mS)), (m2, .inl (G.2.1 0, 6, .inl mL)), (m3, .inl (G.2.1 2, 6, .inl mD)), (amb, .inl (G.2.1 1, 12288, .inl fmb)), (ou, .inl (G.2.1 3, 1, .inr (.inl fo)))] sz) := by
  refine va_MetW (cc := b_Lw_load) (maxL := 7) (ret := (some .int)) (by decide +kernel) rfl ?_
  intro p e s m args below meth c s₁ B hml hv
  obtain ⟨rfl, hsz, hcx, hP, hD0⟩ := hv
  have hx := B.exec
  have hb := B.bytes
  have hr := B.returns
  have hlocks := B.notSynchronized
  have hown : s.vm.findClass R_Lw = some m.cls := findClass_of_methodNamed B.named
  have htb := ct_table (ws := [.codeWith y_Lw_load b_Lw_load 7 (some .int) [(0, 13, 16, 13), (0, 13, 20, 15)]]) (rm := ({ frames := 10, cells := 1, slots := 6, locals := 200 } : Room)) B rfl
  subst hsz
  have hD := hD0.self (sz := s.heap.size)
  generalize hAe : va_A [(h, .inr (1, [.ref m0, .ref aml, .ref amb, .ref t0, .ref atl, .ref att, .ref ate, .ref b0, .ref asb, .ref r0, .ref asr, .int trp])), (m0, .inr (0, [.int 12288, .ref m1, .ref m2, .ref m3, .int mC, .int mU])), (m1, .inl (G.2.1 0, 6, .inl mS)), (m2, .inl (G.2.1 0, 6, .inl mL)), (m3, .inl (G.2.1 2, 6, .inl mD)), (amb, .inl (G.2.1 1, 12288, .inl fmb)), (ou, .inl (G.2.1 3, 1, .inr (.inl fo)))] s.heap.size = A at hD hcx ⊢
  have hA : ∀ q : Nat, s.heap.size ≤ q → A q := fun q h => by rw [← hAe]; exact Or.inr h
  have hS : va_S A s.heap s.heap [] := va_S.rf
  have hts := hcx.now.1 [.ref h, .int k, .int op, .int ad, .int off, .ref ou].toArray
  have hK := hcx.now.2.1
  have hl := lv_entry ([.ref h, .int k, .int op, .int ad, .int off, .ref ou]) (n := 7) (Nat.le_of_ble_eq_true rfl)
  rw [lg_entry_eq]
  generalize (lg_sl ([.ref h, .int k, .int op, .int ad, .int off, .ref ou]) ++ List.replicate (7 - (lg_sl ([.ref h, .int k, .int op, .int ad, .int off, .ref ou])).length) Slot.unset).toArray = ls at hl ⊢
  have hl : lv_has ls 7 [(0, .ref h), (1, .int k), (2, .int op), (3, .int ad), (4, .int off), (5, .ref ou)] := hl
  unfold wp_Lw_load at hw
  refine lv_aload hx hb d_Lw_load_0 (lv_at hl 5 rfl) ?_
  refine lv_iconst (v := 0) hx hb d_Lw_load_2 (by decide) ?_
  refine lv_aload_n hx hb d_Lw_load_3 rfl (lv_at hl 0 rfl) ?_
  refine lv_iload_n hx hb d_Lw_load_4 rfl (lv_at hl 1 rfl) ?_
  refine lv_iload_n hx hb d_Lw_load_5 rfl (lv_at hl 2 rfl) ?_
  refine lv_iload_n hx hb d_Lw_load_6 rfl (lv_at hl 3 rfl) ?_
  refine lv_iload hx hb d_Lw_load_7 (lv_at hl 4 rfl) ?_
  have hPc := hP.sub (ws' := [(h, .inr (1, [.ref m0, .ref aml, .ref amb, .ref t0, .ref atl, .ref att, .ref ate, .ref b0, .ref asb, .ref r0, .ref asr, .int trp])), (m0, .inr (0, [.int 12288, .ref m1, .ref m2, .ref m3, .int mC, .int mU])), (m1, .inl (G.2.1 0, 6, .inl mS)), (m2, .inl (G.2.1 0, 6, .inl mL)), (m3, .inl (G.2.1 2, 6, .inl mD)), (amb, .inl (G.2.1 1, 12288, .inl fmb))]) [0, 1, 2, 3, 4, 5] rfl
  have hDc := hD.sub (ws' := [(h, .inr (1, [.ref m0, .ref aml, .ref amb, .ref t0, .ref atl, .ref att, .ref ate, .ref b0, .ref asb, .ref r0, .ref asr, .int trp])), (m0, .inr (0, [.int 12288, .ref m1, .ref m2, .ref m3, .int mC, .int mU])), (m1, .inl (G.2.1 0, 6, .inl mS)), (m2, .inl (G.2.1 0, 6, .inl mL)), (m3, .inl (G.2.1 2, 6, .inl mD)), (amb, .inl (G.2.1 1, 12288, .inl fmb))]) [0, 1, 2, 3, 4, 5] (by decide) rfl
  have hFc := va_free (wc := [(h, .inr (1, [.ref m0, .ref aml, .ref amb, .ref t0, .ref atl, .ref att, .ref ate, .ref b0, .ref asb, .ref r0, .ref asr, .int trp])), (m0, .inr (0, [.int 12288, .ref m1, .ref m2, .ref m3, .int mC, .int mU])), (m1, .inl (G.2.1 0, 6, .inl mS)), (m2, .inl (G.2.1 0, 6, .inl mL)), (m3, .inl (G.2.1 2, 6, .inl mD)), (amb, .inl (G.2.1 1, 12288, .inl fmb))]) hD hS hA [0, 1, 2, 3, 4, 5] rfl
  refine tx_l (tr_runV (As := [.int k, .int op, .int ad, .int off]) (rest := [.int 0, .ref ou]) ⟨hx, hb, hml, hown, hts⟩ (t_Pm_load l hst G h m0 aml amb t0 atl att ate b0 asb r0 asr m1 m2 m3 trp mC mU mS mL mD fmb k op ad off _ _ _ hw) (cwV 4 hts (gi_V ml_Lw_7 im_Pm_load se_Pm_load ini_Pm co_Pm_load) rfl rfl rfl (by decide +kernel) ⟨Nat.le_of_ble_eq_true rfl, Nat.le_of_ble_eq_true rfl⟩) ⟨cm_blind, va_recv hK hPc (ci := 1) (q0 := 0) rfl rfl, cm_pre hcx hS hPc hDc hFc⟩ rfl rfl hl.1 rfl (lv_room (Nat.le_of_ble_eq_true rfl)) d_Lw_load_9 ⟨Nat.le_of_ble_eq_true rfl, Nat.le_of_ble_eq_true rfl⟩) hS hP hD hA [0, 1, 2, 3, 4, 5] rfl (fun _ => rfl) (fun _ => rfl) (fun E_3 u_2 hw q9 ce9 H locs hP hD hS h91 h92 h93 => ?_) (fun r_1 u_2 H locs hw hP hD hS => ?_)
  · have hE : E_3 = E_ill ∨ E_3 = E_uns := hw.2.2
    rcases hE with hE | hE
    · subst hE
      replace hw := hw.1 rfl
      have hP : va_P G.1 vwC [(h, .inr (1, [.ref m0, .ref aml, .ref amb, .ref t0, .ref atl, .ref att, .ref ate, .ref b0, .ref asb, .ref r0, .ref asr, .int u_2])), (m0, .inr (0, [.int 12288, .ref m1, .ref m2, .ref m3, .int mC, .int mU])), (m1, .inl (G.2.1 0, 6, .inl mS)), (m2, .inl (G.2.1 0, 6, .inl mL)), (m3, .inl (G.2.1 2, 6, .inl mD)), (amb, .inl (G.2.1 1, 12288, .inl fmb)), (ou, .inl (G.2.1 3, 1, .inr (.inl fo)))] H := hP
      have hD : va_D A [(h, .inr (1, [.ref m0, .ref aml, .ref amb, .ref t0, .ref atl, .ref att, .ref ate, .ref b0, .ref asb, .ref r0, .ref asr, .int u_2])), (m0, .inr (0, [.int 12288, .ref m1, .ref m2, .ref m3, .int mC, .int mU])), (m1, .inl (G.2.1 0, 6, .inl mS)), (m2, .inl (G.2.1 0, 6, .inl mL)), (m3, .inl (G.2.1 2, 6, .inl mD)), (amb, .inl (G.2.1 1, 12288, .inl fmb)), (ou, .inl (G.2.1 3, 1, .inr (.inl fo)))] := hD
      refine ct_1h hown htb (by decide) (by decide) (by decide) (hts _ cl_Lw_13) (hcx.now.2.2.1 _ _ hc_ill) h91 h92 h93 ?_
      refine lv_astore (lv' := [(6, .ref q9), (0, .ref h), (1, .int k), (2, .int op), (3, .int ad), (4, .int off), (5, .ref ou)]) hx hb d_Lw_load_16 hl (by decide) rfl (fun ls hl => ?_)
      refine lv_iconst (v := 1) hx hb d_Lw_load_18 (by decide) ?_
      exact W.iret (v := 1) hx hb hr (fun t ht hW => ⟨⟨1, (u_2, fo), rfl, hw, by have h9 := hP; rw [← ht] at h9; exact h9⟩, hS.F ht⟩) hS.2.2 d_Lw_load_19
    · subst hE
      replace hw := hw.2.1 rfl
      have hP : va_P G.1 vwC [(h, .inr (1, [.ref m0, .ref aml, .ref amb, .ref t0, .ref atl, .ref att, .ref ate, .ref b0, .ref asb, .ref r0, .ref asr, .int u_2])), (m0, .inr (0, [.int 12288, .ref m1, .ref m2, .ref m3, .int mC, .int mU])), (m1, .inl (G.2.1 0, 6, .inl mS)), (m2, .inl (G.2.1 0, 6, .inl mL)), (m3, .inl (G.2.1 2, 6, .inl mD)), (amb, .inl (G.2.1 1, 12288, .inl fmb)), (ou, .inl (G.2.1 3, 1, .inr (.inl fo)))] H := hP
      have hD : va_D A [(h, .inr (1, [.ref m0, .ref aml, .ref amb, .ref t0, .ref atl, .ref att, .ref ate, .ref b0, .ref asb, .ref r0, .ref asr, .int u_2])), (m0, .inr (0, [.int 12288, .ref m1, .ref m2, .ref m3, .int mC, .int mU])), (m1, .inl (G.2.1 0, 6, .inl mS)), (m2, .inl (G.2.1 0, 6, .inl mL)), (m3, .inl (G.2.1 2, 6, .inl mD)), (amb, .inl (G.2.1 1, 12288, .inl fmb)), (ou, .inl (G.2.1 3, 1, .inr (.inl fo)))] := hD
      refine ct_2h hown htb (by decide) (by decide) (by decide) (by decide) (by decide) (by decide) (hts _ cl_Lw_13) hcx.now.2.2.2.2.2.2 (hts _ cl_Lw_15) (hcx.now.2.2.1 _ _ hc_uns) h91 h92 h93 ?_
      refine lv_astore (lv' := [(6, .ref q9), (0, .ref h), (1, .int k), (2, .int op), (3, .int ad), (4, .int off), (5, .ref ou)]) hx hb d_Lw_load_20 hl (by decide) rfl (fun ls hl => ?_)
      refine lv_iconst (v := 2) hx hb d_Lw_load_22 (by decide) ?_
      exact W.iret (v := 2) hx hb hr (fun t ht hW => ⟨⟨2, (u_2, fo), rfl, hw, by have h9 := hP; rw [← ht] at h9; exact h9⟩, hS.F ht⟩) hS.2.2 d_Lw_load_23
  · have hP : va_P G.1 vwC [(h, .inr (1, [.ref m0, .ref aml, .ref amb, .ref t0, .ref atl, .ref att, .ref ate, .ref b0, .ref asb, .ref r0, .ref asr, .int u_2])), (m0, .inr (0, [.int 12288, .ref m1, .ref m2, .ref m3, .int mC, .int mU])), (m1, .inl (G.2.1 0, 6, .inl mS)), (m2, .inl (G.2.1 0, 6, .inl mL)), (m3, .inl (G.2.1 2, 6, .inl mD)), (amb, .inl (G.2.1 1, 12288, .inl fmb)), (ou, .inl (G.2.1 3, 1, .inr (.inl fo)))] H := hP
    have hD : va_D A [(h, .inr (1, [.ref m0, .ref aml, .ref amb, .ref t0, .ref atl, .ref att, .ref ate, .ref b0, .ref asb, .ref r0, .ref asr, .int u_2])), (m0, .inr (0, [.int 12288, .ref m1, .ref m2, .ref m3, .int mC, .int mU])), (m1, .inl (G.2.1 0, 6, .inl mS)), (m2, .inl (G.2.1 0, 6, .inl mL)), (m3, .inl (G.2.1 2, 6, .inl mD)), (amb, .inl (G.2.1 1, 12288, .inl fmb)), (ou, .inl (G.2.1 3, 1, .inr (.inl fo)))] := hD
    obtain ⟨h_4, hw⟩ := hw
    obtain ⟨a_5, ea_5⟩ : ∃ z, z = vp_updL fo (0 : Int32).toNatClampNeg r_1 := ⟨_, rfl⟩
    replace hw := hw a_5 ea_5
    refine va_last hx hb hK hP hD hS 6 3 rfl rfl h_4 d_Lw_load_12 (fun H locs hP hD hS => ?_)
    rw [← ea_5] at hP hD
    have hP : va_P G.1 vwC [(h, .inr (1, [.ref m0, .ref aml, .ref amb, .ref t0, .ref atl, .ref att, .ref ate, .ref b0, .ref asb, .ref r0, .ref asr, .int u_2])), (m0, .inr (0, [.int 12288, .ref m1, .ref m2, .ref m3, .int mC, .int mU])), (m1, .inl (G.2.1 0, 6, .inl mS)), (m2, .inl (G.2.1 0, 6, .inl mL)), (m3, .inl (G.2.1 2, 6, .inl mD)), (amb, .inl (G.2.1 1, 12288, .inl fmb)), (ou, .inl (G.2.1 3, 1, .inr (.inl a_5)))] H := hP
    have hD : va_D A [(h, .inr (1, [.ref m0, .ref aml, .ref amb, .ref t0, .ref atl, .ref att, .ref ate, .ref b0, .ref asb, .ref r0, .ref asr, .int u_2])), (m0, .inr (0, [.int 12288, .ref m1, .ref m2, .ref m3, .int mC, .int mU])), (m1, .inl (G.2.1 0, 6, .inl mS)), (m2, .inl (G.2.1 0, 6, .inl mL)), (m3, .inl (G.2.1 2, 6, .inl mD)), (amb, .inl (G.2.1 1, 12288, .inl fmb)), (ou, .inl (G.2.1 3, 1, .inr (.inl a_5)))] := hD
    refine lv_goto (tgt := 24) hx hb d_Lw_load_13 (by decide) ?_
    refine lv_iconst (v := 0) hx hb d_Lw_load_24 (by decide) ?_
    exact W.iret (v := 0) hx hb hr (fun t ht hW => ⟨⟨0, (u_2, a_5), rfl, hw, by have h9 := hP; rw [← ht] at h9; exact h9⟩, hS.F ht⟩) hS.2.2 d_Lw_load_25
def wp_Lw_store (post : Int32 → (Int32 × (Nat → Int32)) → Prop) (trp : Int32) (mC : Int32) (mU : Int32) (mS : Nat → Int32) (mL : Nat → Int32) (mD : Nat → Int32) (fmb : Nat → Int32) (k : Int32) (op : Int32) (ad : Int32) (off : Int32) (vl : Int64) : Prop := wp_Pm_store (fun u_2 => post 0 (u_2.1, u_2.2)) (fun E_3 u_2 => ((E_3 = E_ill → (post 1 (u_2.1, u_2.2))) ∧ (E_3 = E_uns → (post 2 (u_2.1, u_2.2))) ∧ (E_3 = E_ill ∨ E_3 = E_uns))) trp mC mU mS mL mD fmb k op ad off vl
set_option maxHeartbeats 4000000 in
set_option maxRecDepth 100000 in
theorem t_Lw_store (l : Launch) (hst : l.stackTraces = false) (G : cxT) (h : Nat) (m0 : Nat) (aml : Nat) (amb : Nat) (t0 : Nat) (atl : Nat) (att : Nat) (ate : Nat) (b0 : Nat) (asb : Nat) (r0 : Nat) (asr : Nat) (m1 : Nat) (m2 : Nat) (m3 : Nat) (trp : Int32) (mC : Int32) (mU : Int32) (mS : Nat → Int32) (mL : Nat → Int32) (mD : Nat → Int32) (fmb : Nat → Int32) (k : Int32) (op : Int32) (ad : Int32) (off : Int32) (vl : Int64) (sz : Nat) (post : Int32 → (Int32 × (Nat → Int32)) → Prop) (hw : wp_Lw_store post trp mC mU mS mL mD fmb k op ad off vl) : Met l y_Lw_store [.codeWith y_Lw_store b_Lw_store 8 (some .int) [(0, 11, 14, 13), (0, 11, 18, 15)]] ({ frames := 10, cells := 1, slots := 6, locals := 200 } : Room) (cm G [.ref h, .int k, .int op, .int ad, .int off, .long vl] [(h, .inr (1, [.ref m0, .ref aml, .ref amb, .ref t0, .ref atl, .ref att, .ref ate, .ref b0, .ref asb, .ref r0, .ref asr, .int trp])), (m0, .inr (0, [.int 12288, .ref m1, .ref m2, .ref m3, .int mC, .int mU])), (m1, .inl (G.2.1 0, 6, .inl mS)), (m2, .inl (G.2.1 0, 6, .inl mL)), (m3, .inl (G.2.1 2, 6, .inl mD)), (amb, .inl (G.2.1 1, 12288, .inl fmb))] sz) (va_Qi post (fun u t => va_P G.1 vwC [(h, .inr (1, [.ref m0, .ref aml, .ref amb, .ref t0, .ref atl, .ref att, .ref ate, .ref b0, .ref asb, .ref r0, .ref asr, .int u.1])), (m0, .inr (0, [.int 12288, .ref m1, .ref m2, .ref m3, .int mC, .int mU])), (m1, .inl (G.2.1 0, 6, .inl mS)), (m2, .inl (G.2.1 0, 6, .inl mL)), (m3, .inl (G.2.1 2, 6, .inl mD)), (amb, .inl (G.2.1 1, 12288, .inl u.2))] t.heap) (va_A [(h, .inr (1, [.ref m0, .ref aml, .ref amb, .ref t0, .ref atl, .ref att, .ref ate, .ref b0, .ref asb, .ref r0, .ref asr, .int trp])), (m0, .inr (0, [.int 12288, .ref m1, .ref m2, .ref m3, .int mC, .int mU])), (m1, .inl (G.2.1 0, 6, .inl mS)), (m2, .inl (G.2.1 0, 6, .inl mL)), (m3, .inl (G.2.1 2, 6, .inl mD)), (amb, .inl (G.2.1 1, 12288, .inl fmb))] sz)) 1 6 (va_A [(h, .inr (1, [.ref m0, .ref aml, .ref amb, .ref t0, .ref atl, .ref att, .ref ate, .ref b0, .ref asb, .ref r0, .ref asr, .int trp])), (m0, .inr (0, [.int 12288, .ref m1, .ref m2, .ref m3, .int mC, .int mU])), (m1, .inl (G.2.1 0, 6, .inl mS)), (m2, .inl (G.2.1 0, 6, .inl mL)), (m3, .inl (G.2.1 2, 6, .inl mD)), (amb, .inl (G.2.1 1, 12288, .inl fmb))] sz) := by
  refine va_MetW (cc := b_Lw_store) (maxL := 8) (ret := (some .int)) (by decide +kernel) rfl ?_
  intro p e s m args below meth c s₁ B hml hv
  obtain ⟨rfl, hsz, hcx, hP, hD0⟩ := hv
  have hx := B.exec
  have hb := B.bytes
  have hr := B.returns
  have hlocks := B.notSynchronized
  have hown : s.vm.findClass R_Lw = some m.cls := findClass_of_methodNamed B.named
  have htb := ct_table (ws := [.codeWith y_Lw_store b_Lw_store 8 (some .int) [(0, 11, 14, 13), (0, 11, 18, 15)]]) (rm := ({ frames := 10, cells := 1, slots := 6, locals := 200 } : Room)) B rfl
  subst hsz
  have hD := hD0.self (sz := s.heap.size)
  generalize hAe : va_A [(h, .inr (1, [.ref m0, .ref aml, .ref amb, .ref t0, .ref atl, .ref att, .ref ate, .ref b0, .ref asb, .ref r0, .ref asr, .int trp])), (m0, .inr (0, [.int 12288, .ref m1, .ref m2, .ref m3, .int mC, .int mU])), (m1, .inl (G.2.1 0, 6, .inl mS)), (m2, .inl (G.2.1 0, 6, .inl mL)), (m3, .inl (G.2.1 2, 6, .inl mD)), (amb, .inl (G.2.1 1, 12288, .inl fmb))] s.heap.size = A at hD hcx ⊢
  have hA : ∀ q : Nat, s.heap.size ≤ q → A q := fun q h => by rw [← hAe]; exact Or.inr h
  have hS : va_S A s.heap s.heap [] := va_S.rf
  have hts := hcx.now.1 [.ref h, .int k, .int op, .int ad, .int off, .long vl].toArray
  have hK := hcx.now.2.1
  have hl := lv_entry ([.ref h, .int k, .int op, .int ad, .int off, .long vl]) (n := 8) (Nat.le_of_ble_eq_true rfl)
  rw [lg_entry_eq]
  generalize (lg_sl ([.ref h, .int k, .int op, .int ad, .int off, .long vl]) ++ List.replicate (8 - (lg_sl ([.ref h, .int k, .int op, .int ad, .int off, .long vl])).length) Slot.unset).toArray = ls at hl ⊢
  have hl : lv_has ls 8 [(0, .ref h), (1, .int k), (2, .int op), (3, .int ad), (4, .int off), (5, .long vl)] := hl
  unfold wp_Lw_store at hw
  refine lv_aload_n hx hb d_Lw_store_0 rfl (lv_at hl 0 rfl) ?_
  refine lv_iload_n hx hb d_Lw_store_1 rfl (lv_at hl 1 rfl) ?_
  refine lv_iload_n hx hb d_Lw_store_2 rfl (lv_at hl 2 rfl) ?_
  refine lv_iload_n hx hb d_Lw_store_3 rfl (lv_at hl 3 rfl) ?_
  refine lv_iload hx hb d_Lw_store_4 (lv_at hl 4 rfl) ?_
  refine lv_lload hx hb d_Lw_store_6 (lv_at hl 5 rfl) ?_
  have hPc := hP.sub (ws' := [(h, .inr (1, [.ref m0, .ref aml, .ref amb, .ref t0, .ref atl, .ref att, .ref ate, .ref b0, .ref asb, .ref r0, .ref asr, .int trp])), (m0, .inr (0, [.int 12288, .ref m1, .ref m2, .ref m3, .int mC, .int mU])), (m1, .inl (G.2.1 0, 6, .inl mS)), (m2, .inl (G.2.1 0, 6, .inl mL)), (m3, .inl (G.2.1 2, 6, .inl mD)), (amb, .inl (G.2.1 1, 12288, .inl fmb))]) [0, 1, 2, 3, 4, 5] rfl
  have hDc := hD.sub (ws' := [(h, .inr (1, [.ref m0, .ref aml, .ref amb, .ref t0, .ref atl, .ref att, .ref ate, .ref b0, .ref asb, .ref r0, .ref asr, .int trp])), (m0, .inr (0, [.int 12288, .ref m1, .ref m2, .ref m3, .int mC, .int mU])), (m1, .inl (G.2.1 0, 6, .inl mS)), (m2, .inl (G.2.1 0, 6, .inl mL)), (m3, .inl (G.2.1 2, 6, .inl mD)), (amb, .inl (G.2.1 1, 12288, .inl fmb))]) [0, 1, 2, 3, 4, 5] (by decide) rfl
  have hFc := va_free (wc := [(h, .inr (1, [.ref m0, .ref aml, .ref amb, .ref t0, .ref atl, .ref att, .ref ate, .ref b0, .ref asb, .ref r0, .ref asr, .int trp])), (m0, .inr (0, [.int 12288, .ref m1, .ref m2, .ref m3, .int mC, .int mU])), (m1, .inl (G.2.1 0, 6, .inl mS)), (m2, .inl (G.2.1 0, 6, .inl mL)), (m3, .inl (G.2.1 2, 6, .inl mD)), (amb, .inl (G.2.1 1, 12288, .inl fmb))]) hD hS hA [0, 1, 2, 3, 4, 5] rfl
  refine tx_v (tr_runV (As := [.int k, .int op, .int ad, .int off, .long vl]) (rest := []) ⟨hx, hb, hml, hown, hts⟩ (t_Pm_store l hst G h m0 aml amb t0 atl att ate b0 asb r0 asr m1 m2 m3 trp mC mU mS mL mD fmb k op ad off vl _ _ _ hw) (cwV 5 hts (gi_V ml_Lw_17 im_Pm_store se_Pm_store ini_Pm co_Pm_store) rfl rfl rfl (by decide +kernel) ⟨Nat.le_of_ble_eq_true rfl, Nat.le_of_ble_eq_true rfl⟩) ⟨cm_blind, va_recv hK hPc (ci := 1) (q0 := 0) rfl rfl, cm_pre hcx hS hPc hDc hFc⟩ rfl rfl hl.1 rfl (lv_room (Nat.le_of_ble_eq_true rfl)) d_Lw_store_8 ⟨Nat.le_of_ble_eq_true rfl, Nat.le_of_ble_eq_true rfl⟩) hS hP hD hA [0, 1, 2, 3, 4, 5] rfl (fun _ => rfl) (fun _ => rfl) (fun E_3 u_2 hw q9 ce9 H locs hP hD hS h91 h92 h93 => ?_) (fun u_2 H locs hw hP hD hS => ?_)
  · have hE : E_3 = E_ill ∨ E_3 = E_uns := hw.2.2
    rcases hE with hE | hE
    · subst hE
      replace hw := hw.1 rfl
      have hP : va_P G.1 vwC [(h, .inr (1, [.ref m0, .ref aml, .ref amb, .ref t0, .ref atl, .ref att, .ref ate, .ref b0, .ref asb, .ref r0, .ref asr, .int u_2.1])), (m0, .inr (0, [.int 12288, .ref m1, .ref m2, .ref m3, .int mC, .int mU])), (m1, .inl (G.2.1 0, 6, .inl mS)), (m2, .inl (G.2.1 0, 6, .inl mL)), (m3, .inl (G.2.1 2, 6, .inl mD)), (amb, .inl (G.2.1 1, 12288, .inl u_2.2))] H := hP
      have hD : va_D A [(h, .inr (1, [.ref m0, .ref aml, .ref amb, .ref t0, .ref atl, .ref att, .ref ate, .ref b0, .ref asb, .ref r0, .ref asr, .int u_2.1])), (m0, .inr (0, [.int 12288, .ref m1, .ref m2, .ref m3, .int mC, .int mU])), (m1, .inl (G.2.1 0, 6, .inl mS)), (m2, .inl (G.2.1 0, 6, .inl mL)), (m3, .inl (G.2.1 2, 6, .inl mD)), (amb, .inl (G.2.1 1, 12288, .inl u_2.2))] := hD
      refine ct_1h hown htb (by decide) (by decide) (by decide) (hts _ cl_Lw_13) (hcx.now.2.2.1 _ _ hc_ill) h91 h92 h93 ?_
      refine lv_astore (lv' := [(7, .ref q9), (0, .ref h), (1, .int k), (2, .int op), (3, .int ad), (4, .int off), (5, .long vl)]) hx hb d_Lw_store_14 hl (by decide) rfl (fun ls hl => ?_)
      refine lv_iconst (v := 1) hx hb d_Lw_store_16 (by decide) ?_
      exact W.iret (v := 1) hx hb hr (fun t ht hW => ⟨⟨1, (u_2.1, u_2.2), rfl, hw, by have h9 := hP; rw [← ht] at h9; exact h9⟩, hS.F ht⟩) hS.2.2 d_Lw_store_17
    · subst hE
      replace hw := hw.2.1 rfl
      have hP : va_P G.1 vwC [(h, .inr (1, [.ref m0, .ref aml, .ref amb, .ref t0, .ref atl, .ref att, .ref ate, .ref b0, .ref asb, .ref r0, .ref asr, .int u_2.1])), (m0, .inr (0, [.int 12288, .ref m1, .ref m2, .ref m3, .int mC, .int mU])), (m1, .inl (G.2.1 0, 6, .inl mS)), (m2, .inl (G.2.1 0, 6, .inl mL)), (m3, .inl (G.2.1 2, 6, .inl mD)), (amb, .inl (G.2.1 1, 12288, .inl u_2.2))] H := hP
      have hD : va_D A [(h, .inr (1, [.ref m0, .ref aml, .ref amb, .ref t0, .ref atl, .ref att, .ref ate, .ref b0, .ref asb, .ref r0, .ref asr, .int u_2.1])), (m0, .inr (0, [.int 12288, .ref m1, .ref m2, .ref m3, .int mC, .int mU])), (m1, .inl (G.2.1 0, 6, .inl mS)), (m2, .inl (G.2.1 0, 6, .inl mL)), (m3, .inl (G.2.1 2, 6, .inl mD)), (amb, .inl (G.2.1 1, 12288, .inl u_2.2))] := hD
      refine ct_2h hown htb (by decide) (by decide) (by decide) (by decide) (by decide) (by decide) (hts _ cl_Lw_13) hcx.now.2.2.2.2.2.2 (hts _ cl_Lw_15) (hcx.now.2.2.1 _ _ hc_uns) h91 h92 h93 ?_
      refine lv_astore (lv' := [(7, .ref q9), (0, .ref h), (1, .int k), (2, .int op), (3, .int ad), (4, .int off), (5, .long vl)]) hx hb d_Lw_store_18 hl (by decide) rfl (fun ls hl => ?_)
      refine lv_iconst (v := 2) hx hb d_Lw_store_20 (by decide) ?_
      exact W.iret (v := 2) hx hb hr (fun t ht hW => ⟨⟨2, (u_2.1, u_2.2), rfl, hw, by have h9 := hP; rw [← ht] at h9; exact h9⟩, hS.F ht⟩) hS.2.2 d_Lw_store_21
  · have hP : va_P G.1 vwC [(h, .inr (1, [.ref m0, .ref aml, .ref amb, .ref t0, .ref atl, .ref att, .ref ate, .ref b0, .ref asb, .ref r0, .ref asr, .int u_2.1])), (m0, .inr (0, [.int 12288, .ref m1, .ref m2, .ref m3, .int mC, .int mU])), (m1, .inl (G.2.1 0, 6, .inl mS)), (m2, .inl (G.2.1 0, 6, .inl mL)), (m3, .inl (G.2.1 2, 6, .inl mD)), (amb, .inl (G.2.1 1, 12288, .inl u_2.2))] H := hP
    have hD : va_D A [(h, .inr (1, [.ref m0, .ref aml, .ref amb, .ref t0, .ref atl, .ref att, .ref ate, .ref b0, .ref asb, .ref r0, .ref asr, .int u_2.1])), (m0, .inr (0, [.int 12288, .ref m1, .ref m2, .ref m3, .int mC, .int mU])), (m1, .inl (G.2.1 0, 6, .inl mS)), (m2, .inl (G.2.1 0, 6, .inl mL)), (m3, .inl (G.2.1 2, 6, .inl mD)), (amb, .inl (G.2.1 1, 12288, .inl u_2.2))] := hD
    refine lv_goto (tgt := 22) hx hb d_Lw_store_11 (by decide) ?_
    refine lv_iconst (v := 0) hx hb d_Lw_store_22 (by decide) ?_
    exact W.iret (v := 0) hx hb hr (fun t ht hW => ⟨⟨0, (u_2.1, u_2.2), rfl, hw, by have h9 := hP; rw [← ht] at h9; exact h9⟩, hS.F ht⟩) hS.2.2 d_Lw_store_23
def wp_Lw_fill (post : Int32 → (Int32 × (Nat → Int32)) → Prop) (trp : Int32) (mC : Int32) (mU : Int32) (mS : Nat → Int32) (mL : Nat → Int32) (mD : Nat → Int32) (fmb : Nat → Int32) (k : Int32) (to : Int32) (vl : Int32) (cn : Int32) : Prop := wp_Pm_fill (fun u_2 => post 0 (u_2.1, u_2.2)) (fun E_3 u_2 => ((E_3 = E_ill → (post 1 (u_2.1, u_2.2))) ∧ (E_3 = E_uns → (post 2 (u_2.1, u_2.2))) ∧ (E_3 = E_ill ∨ E_3 = E_uns))) trp mC mU mS mL mD fmb k to vl cn
set_option maxHeartbeats 4000000 in
set_option maxRecDepth 100000 in
theorem t_Lw_fill (l : Launch) (hst : l.stackTraces = false) (G : cxT) (h : Nat) (m0 : Nat) (aml : Nat) (amb : Nat) (t0 : Nat) (atl : Nat) (att : Nat) (ate : Nat) (b0 : Nat) (asb : Nat) (r0 : Nat) (asr : Nat) (m1 : Nat) (m2 : Nat) (m3 : Nat) (trp : Int32) (mC : Int32) (mU : Int32) (mS : Nat → Int32) (mL : Nat → Int32) (mD : Nat → Int32) (fmb : Nat → Int32) (k : Int32) (to : Int32) (vl : Int32) (cn : Int32) (sz : Nat) (post : Int32 → (Int32 × (Nat → Int32)) → Prop) (hw : wp_Lw_fill post trp mC mU mS mL mD fmb k to vl cn) : Met l y_Lw_fill [.codeWith y_Lw_fill b_Lw_fill 6 (some .int) [(0, 9, 12, 13), (0, 9, 16, 15)]] ({ frames := 10, cells := 1, slots := 6, locals := 200 } : Room) (cm G [.ref h, .int k, .int to, .int vl, .int cn] [(h, .inr (1, [.ref m0, .ref aml, .ref amb, .ref t0, .ref atl, .ref att, .ref ate, .ref b0, .ref asb, .ref r0, .ref asr, .int trp])), (m0, .inr (0, [.int 12288, .ref m1, .ref m2, .ref m3, .int mC, .int mU])), (m1, .inl (G.2.1 0, 6, .inl mS)), (m2, .inl (G.2.1 0, 6, .inl mL)), (m3, .inl (G.2.1 2, 6, .inl mD)), (amb, .inl (G.2.1 1, 12288, .inl fmb))] sz) (va_Qi post (fun u t => va_P G.1 vwC [(h, .inr (1, [.ref m0, .ref aml, .ref amb, .ref t0, .ref atl, .ref att, .ref ate, .ref b0, .ref asb, .ref r0, .ref asr, .int u.1])), (m0, .inr (0, [.int 12288, .ref m1, .ref m2, .ref m3, .int mC, .int mU])), (m1, .inl (G.2.1 0, 6, .inl mS)), (m2, .inl (G.2.1 0, 6, .inl mL)), (m3, .inl (G.2.1 2, 6, .inl mD)), (amb, .inl (G.2.1 1, 12288, .inl u.2))] t.heap) (va_A [(h, .inr (1, [.ref m0, .ref aml, .ref amb, .ref t0, .ref atl, .ref att, .ref ate, .ref b0, .ref asb, .ref r0, .ref asr, .int trp])), (m0, .inr (0, [.int 12288, .ref m1, .ref m2, .ref m3, .int mC, .int mU])), (m1, .inl (G.2.1 0, 6, .inl mS)), (m2, .inl (G.2.1 0, 6, .inl mL)), (m3, .inl (G.2.1 2, 6, .inl mD)), (amb, .inl (G.2.1 1, 12288, .inl fmb))] sz)) 1 6 (va_A [(h, .inr (1, [.ref m0, .ref aml, .ref amb, .ref t0, .ref atl, .ref att, .ref ate, .ref b0, .ref asb, .ref r0, .ref asr, .int trp])), (m0, .inr (0, [.int 12288, .ref m1, .ref m2, .ref m3, .int mC, .int mU])), (m1, .inl (G.2.1 0, 6, .inl mS)), (m2, .inl (G.2.1 0, 6, .inl mL)), (m3, .inl (G.2.1 2, 6, .inl mD)), (amb, .inl (G.2.1 1, 12288, .inl fmb))] sz) := by
  refine va_MetW (cc := b_Lw_fill) (maxL := 6) (ret := (some .int)) (by decide +kernel) rfl ?_
  intro p e s m args below meth c s₁ B hml hv
  obtain ⟨rfl, hsz, hcx, hP, hD0⟩ := hv
  have hx := B.exec
  have hb := B.bytes
  have hr := B.returns
  have hlocks := B.notSynchronized
  have hown : s.vm.findClass R_Lw = some m.cls := findClass_of_methodNamed B.named
  have htb := ct_table (ws := [.codeWith y_Lw_fill b_Lw_fill 6 (some .int) [(0, 9, 12, 13), (0, 9, 16, 15)]]) (rm := ({ frames := 10, cells := 1, slots := 6, locals := 200 } : Room)) B rfl
  subst hsz
  have hD := hD0.self (sz := s.heap.size)
  generalize hAe : va_A [(h, .inr (1, [.ref m0, .ref aml, .ref amb, .ref t0, .ref atl, .ref att, .ref ate, .ref b0, .ref asb, .ref r0, .ref asr, .int trp])), (m0, .inr (0, [.int 12288, .ref m1, .ref m2, .ref m3, .int mC, .int mU])), (m1, .inl (G.2.1 0, 6, .inl mS)), (m2, .inl (G.2.1 0, 6, .inl mL)), (m3, .inl (G.2.1 2, 6, .inl mD)), (amb, .inl (G.2.1 1, 12288, .inl fmb))] s.heap.size = A at hD hcx ⊢
  have hA : ∀ q : Nat, s.heap.size ≤ q → A q := fun q h => by rw [← hAe]; exact Or.inr h
  have hS : va_S A s.heap s.heap [] := va_S.rf
  have hts := hcx.now.1 [.ref h, .int k, .int to, .int vl, .int cn].toArray
  have hK := hcx.now.2.1
  have hl := lv_entry ([.ref h, .int k, .int to, .int vl, .int cn]) (n := 6) (Nat.le_of_ble_eq_true rfl)
  rw [lg_entry_eq]
  generalize (lg_sl ([.ref h, .int k, .int to, .int vl, .int cn]) ++ List.replicate (6 - (lg_sl ([.ref h, .int k, .int to, .int vl, .int cn])).length) Slot.unset).toArray = ls at hl ⊢
  have hl : lv_has ls 6 [(0, .ref h), (1, .int k), (2, .int to), (3, .int vl), (4, .int cn)] := hl
  unfold wp_Lw_fill at hw
  refine lv_aload_n hx hb d_Lw_fill_0 rfl (lv_at hl 0 rfl) ?_
  refine lv_iload_n hx hb d_Lw_fill_1 rfl (lv_at hl 1 rfl) ?_
  refine lv_iload_n hx hb d_Lw_fill_2 rfl (lv_at hl 2 rfl) ?_
  refine lv_iload_n hx hb d_Lw_fill_3 rfl (lv_at hl 3 rfl) ?_
  refine lv_iload hx hb d_Lw_fill_4 (lv_at hl 4 rfl) ?_
  have hPc := hP.sub (ws' := [(h, .inr (1, [.ref m0, .ref aml, .ref amb, .ref t0, .ref atl, .ref att, .ref ate, .ref b0, .ref asb, .ref r0, .ref asr, .int trp])), (m0, .inr (0, [.int 12288, .ref m1, .ref m2, .ref m3, .int mC, .int mU])), (m1, .inl (G.2.1 0, 6, .inl mS)), (m2, .inl (G.2.1 0, 6, .inl mL)), (m3, .inl (G.2.1 2, 6, .inl mD)), (amb, .inl (G.2.1 1, 12288, .inl fmb))]) [0, 1, 2, 3, 4, 5] rfl
  have hDc := hD.sub (ws' := [(h, .inr (1, [.ref m0, .ref aml, .ref amb, .ref t0, .ref atl, .ref att, .ref ate, .ref b0, .ref asb, .ref r0, .ref asr, .int trp])), (m0, .inr (0, [.int 12288, .ref m1, .ref m2, .ref m3, .int mC, .int mU])), (m1, .inl (G.2.1 0, 6, .inl mS)), (m2, .inl (G.2.1 0, 6, .inl mL)), (m3, .inl (G.2.1 2, 6, .inl mD)), (amb, .inl (G.2.1 1, 12288, .inl fmb))]) [0, 1, 2, 3, 4, 5] (by decide) rfl
  have hFc := va_free (wc := [(h, .inr (1, [.ref m0, .ref aml, .ref amb, .ref t0, .ref atl, .ref att, .ref ate, .ref b0, .ref asb, .ref r0, .ref asr, .int trp])), (m0, .inr (0, [.int 12288, .ref m1, .ref m2, .ref m3, .int mC, .int mU])), (m1, .inl (G.2.1 0, 6, .inl mS)), (m2, .inl (G.2.1 0, 6, .inl mL)), (m3, .inl (G.2.1 2, 6, .inl mD)), (amb, .inl (G.2.1 1, 12288, .inl fmb))]) hD hS hA [0, 1, 2, 3, 4, 5] rfl
  refine tx_v (tr_runV (As := [.int k, .int to, .int vl, .int cn]) (rest := []) ⟨hx, hb, hml, hown, hts⟩ (t_Pm_fill l hst G h m0 aml amb t0 atl att ate b0 asb r0 asr m1 m2 m3 trp mC mU mS mL mD fmb k to vl cn _ _ _ hw) (cwV 4 hts (gi_V ml_Lw_21 im_Pm_fill se_Pm_fill ini_Pm co_Pm_fill) rfl rfl rfl (by decide +kernel) ⟨Nat.le_of_ble_eq_true rfl, Nat.le_of_ble_eq_true rfl⟩) ⟨cm_blind, va_recv hK hPc (ci := 1) (q0 := 0) rfl rfl, cm_pre hcx hS hPc hDc hFc⟩ rfl rfl hl.1 rfl (lv_room (Nat.le_of_ble_eq_true rfl)) d_Lw_fill_6 ⟨Nat.le_of_ble_eq_true rfl, Nat.le_of_ble_eq_true rfl⟩) hS hP hD hA [0, 1, 2, 3, 4, 5] rfl (fun _ => rfl) (fun _ => rfl) (fun E_3 u_2 hw q9 ce9 H locs hP hD hS h91 h92 h93 => ?_) (fun u_2 H locs hw hP hD hS => ?_)
  · have hE : E_3 = E_ill ∨ E_3 = E_uns := hw.2.2
    rcases hE with hE | hE
    · subst hE
      replace hw := hw.1 rfl
      have hP : va_P G.1 vwC [(h, .inr (1, [.ref m0, .ref aml, .ref amb, .ref t0, .ref atl, .ref att, .ref ate, .ref b0, .ref asb, .ref r0, .ref asr, .int u_2.1])), (m0, .inr (0, [.int 12288, .ref m1, .ref m2, .ref m3, .int mC, .int mU])), (m1, .inl (G.2.1 0, 6, .inl mS)), (m2, .inl (G.2.1 0, 6, .inl mL)), (m3, .inl (G.2.1 2, 6, .inl mD)), (amb, .inl (G.2.1 1, 12288, .inl u_2.2))] H := hP
      have hD : va_D A [(h, .inr (1, [.ref m0, .ref aml, .ref amb, .ref t0, .ref atl, .ref att, .ref ate, .ref b0, .ref asb, .ref r0, .ref asr, .int u_2.1])), (m0, .inr (0, [.int 12288, .ref m1, .ref m2, .ref m3, .int mC, .int mU])), (m1, .inl (G.2.1 0, 6, .inl mS)), (m2, .inl (G.2.1 0, 6, .inl mL)), (m3, .inl (G.2.1 2, 6, .inl mD)), (amb, .inl (G.2.1 1, 12288, .inl u_2.2))] := hD
      refine ct_1h hown htb (by decide) (by decide) (by decide) (hts _ cl_Lw_13) (hcx.now.2.2.1 _ _ hc_ill) h91 h92 h93 ?_
      refine lv_astore (lv' := [(5, .ref q9), (0, .ref h), (1, .int k), (2, .int to), (3, .int vl), (4, .int cn)]) hx hb d_Lw_fill_12 hl (by decide) rfl (fun ls hl => ?_)
      refine lv_iconst (v := 1) hx hb d_Lw_fill_14 (by decide) ?_
      exact W.iret (v := 1) hx hb hr (fun t ht hW => ⟨⟨1, (u_2.1, u_2.2), rfl, hw, by have h9 := hP; rw [← ht] at h9; exact h9⟩, hS.F ht⟩) hS.2.2 d_Lw_fill_15
    · subst hE
      replace hw := hw.2.1 rfl
      have hP : va_P G.1 vwC [(h, .inr (1, [.ref m0, .ref aml, .ref amb, .ref t0, .ref atl, .ref att, .ref ate, .ref b0, .ref asb, .ref r0, .ref asr, .int u_2.1])), (m0, .inr (0, [.int 12288, .ref m1, .ref m2, .ref m3, .int mC, .int mU])), (m1, .inl (G.2.1 0, 6, .inl mS)), (m2, .inl (G.2.1 0, 6, .inl mL)), (m3, .inl (G.2.1 2, 6, .inl mD)), (amb, .inl (G.2.1 1, 12288, .inl u_2.2))] H := hP
      have hD : va_D A [(h, .inr (1, [.ref m0, .ref aml, .ref amb, .ref t0, .ref atl, .ref att, .ref ate, .ref b0, .ref asb, .ref r0, .ref asr, .int u_2.1])), (m0, .inr (0, [.int 12288, .ref m1, .ref m2, .ref m3, .int mC, .int mU])), (m1, .inl (G.2.1 0, 6, .inl mS)), (m2, .inl (G.2.1 0, 6, .inl mL)), (m3, .inl (G.2.1 2, 6, .inl mD)), (amb, .inl (G.2.1 1, 12288, .inl u_2.2))] := hD
      refine ct_2h hown htb (by decide) (by decide) (by decide) (by decide) (by decide) (by decide) (hts _ cl_Lw_13) hcx.now.2.2.2.2.2.2 (hts _ cl_Lw_15) (hcx.now.2.2.1 _ _ hc_uns) h91 h92 h93 ?_
      refine lv_astore (lv' := [(5, .ref q9), (0, .ref h), (1, .int k), (2, .int to), (3, .int vl), (4, .int cn)]) hx hb d_Lw_fill_16 hl (by decide) rfl (fun ls hl => ?_)
      refine lv_iconst (v := 2) hx hb d_Lw_fill_18 (by decide) ?_
      exact W.iret (v := 2) hx hb hr (fun t ht hW => ⟨⟨2, (u_2.1, u_2.2), rfl, hw, by have h9 := hP; rw [← ht] at h9; exact h9⟩, hS.F ht⟩) hS.2.2 d_Lw_fill_19
  · have hP : va_P G.1 vwC [(h, .inr (1, [.ref m0, .ref aml, .ref amb, .ref t0, .ref atl, .ref att, .ref ate, .ref b0, .ref asb, .ref r0, .ref asr, .int u_2.1])), (m0, .inr (0, [.int 12288, .ref m1, .ref m2, .ref m3, .int mC, .int mU])), (m1, .inl (G.2.1 0, 6, .inl mS)), (m2, .inl (G.2.1 0, 6, .inl mL)), (m3, .inl (G.2.1 2, 6, .inl mD)), (amb, .inl (G.2.1 1, 12288, .inl u_2.2))] H := hP
    have hD : va_D A [(h, .inr (1, [.ref m0, .ref aml, .ref amb, .ref t0, .ref atl, .ref att, .ref ate, .ref b0, .ref asb, .ref r0, .ref asr, .int u_2.1])), (m0, .inr (0, [.int 12288, .ref m1, .ref m2, .ref m3, .int mC, .int mU])), (m1, .inl (G.2.1 0, 6, .inl mS)), (m2, .inl (G.2.1 0, 6, .inl mL)), (m3, .inl (G.2.1 2, 6, .inl mD)), (amb, .inl (G.2.1 1, 12288, .inl u_2.2))] := hD
    refine lv_goto (tgt := 20) hx hb d_Lw_fill_9 (by decide) ?_
    refine lv_iconst (v := 0) hx hb d_Lw_fill_20 (by decide) ?_
    exact W.iret (v := 0) hx hb hr (fun t ht hW => ⟨⟨0, (u_2.1, u_2.2), rfl, hw, by have h9 := hP; rw [← ht] at h9; exact h9⟩, hS.F ht⟩) hS.2.2 d_Lw_fill_21
def wp_Lw_copy (post : Int32 → (Int32 × (Nat → Int32)) → Prop) (trp : Int32) (mC : Int32) (mU : Int32) (mS : Nat → Int32) (mL : Nat → Int32) (mD : Nat → Int32) (fmb : Nat → Int32) (k : Int32) (to : Int32) (fr : Int32) (cn : Int32) : Prop := wp_Pm_copy (fun u_2 => post 0 (u_2.1, u_2.2)) (fun E_3 u_2 => ((E_3 = E_ill → (post 1 (u_2.1, u_2.2))) ∧ (E_3 = E_uns → (post 2 (u_2.1, u_2.2))) ∧ (E_3 = E_ill ∨ E_3 = E_uns))) trp mC mU mS mL mD fmb k to fr cn
set_option maxHeartbeats 4000000 in
set_option maxRecDepth 100000 in
theorem t_Lw_copy (l : Launch) (hst : l.stackTraces = false) (G : cxT) (h : Nat) (m0 : Nat) (aml : Nat) (amb : Nat) (t0 : Nat) (atl : Nat) (att : Nat) (ate : Nat) (b0 : Nat) (asb : Nat) (r0 : Nat) (asr : Nat) (m1 : Nat) (m2 : Nat) (m3 : Nat) (trp : Int32) (mC : Int32) (mU : Int32) (mS : Nat → Int32) (mL : Nat → Int32) (mD : Nat → Int32) (fmb : Nat → Int32) (k : Int32) (to : Int32) (fr : Int32) (cn : Int32) (sz : Nat) (post : Int32 → (Int32 × (Nat → Int32)) → Prop) (hw : wp_Lw_copy post trp mC mU mS mL mD fmb k to fr cn) : Met l y_Lw_copy [.codeWith y_Lw_copy b_Lw_copy 6 (some .int) [(0, 9, 12, 13), (0, 9, 16, 15)]] ({ frames := 10, cells := 2, slots := 12, locals := 200 } : Room) (cm G [.ref h, .int k, .int to, .int fr, .int cn] [(h, .inr (1, [.ref m0, .ref aml, .ref amb, .ref t0, .ref atl, .ref att, .ref ate, .ref b0, .ref asb, .ref r0, .ref asr, .int trp])), (m0, .inr (0, [.int 12288, .ref m1, .ref m2, .ref m3, .int mC, .int mU])), (m1, .inl (G.2.1 0, 6, .inl mS)), (m2, .inl (G.2.1 0, 6, .inl mL)), (m3, .inl (G.2.1 2, 6, .inl mD)), (amb, .inl (G.2.1 1, 12288, .inl fmb))] sz) (va_Qi post (fun u t => va_P G.1 vwC [(h, .inr (1, [.ref m0, .ref aml, .ref amb, .ref t0, .ref atl, .ref att, .ref ate, .ref b0, .ref asb, .ref r0, .ref asr, .int u.1])), (m0, .inr (0, [.int 12288, .ref m1, .ref m2, .ref m3, .int mC, .int mU])), (m1, .inl (G.2.1 0, 6, .inl mS)), (m2, .inl (G.2.1 0, 6, .inl mL)), (m3, .inl (G.2.1 2, 6, .inl mD)), (amb, .inl (G.2.1 1, 12288, .inl u.2))] t.heap) (va_A [(h, .inr (1, [.ref m0, .ref aml, .ref amb, .ref t0, .ref atl, .ref att, .ref ate, .ref b0, .ref asb, .ref r0, .ref asr, .int trp])), (m0, .inr (0, [.int 12288, .ref m1, .ref m2, .ref m3, .int mC, .int mU])), (m1, .inl (G.2.1 0, 6, .inl mS)), (m2, .inl (G.2.1 0, 6, .inl mL)), (m3, .inl (G.2.1 2, 6, .inl mD)), (amb, .inl (G.2.1 1, 12288, .inl fmb))] sz)) 2 12 (va_A [(h, .inr (1, [.ref m0, .ref aml, .ref amb, .ref t0, .ref atl, .ref att, .ref ate, .ref b0, .ref asb, .ref r0, .ref asr, .int trp])), (m0, .inr (0, [.int 12288, .ref m1, .ref m2, .ref m3, .int mC, .int mU])), (m1, .inl (G.2.1 0, 6, .inl mS)), (m2, .inl (G.2.1 0, 6, .inl mL)), (m3, .inl (G.2.1 2, 6, .inl mD)), (amb, .inl (G.2.1 1, 12288, .inl fmb))] sz) := by
  refine va_MetW (cc := b_Lw_copy) (maxL := 6) (ret := (some .int)) (by decide +kernel) rfl ?_
  intro p e s m args below meth c s₁ B hml hv
  obtain ⟨rfl, hsz, hcx, hP, hD0⟩ := hv
  have hx := B.exec
  have hb := B.bytes
  have hr := B.returns
  have hlocks := B.notSynchronized
  have hown : s.vm.findClass R_Lw = some m.cls := findClass_of_methodNamed B.named
  have htb := ct_table (ws := [.codeWith y_Lw_copy b_Lw_copy 6 (some .int) [(0, 9, 12, 13), (0, 9, 16, 15)]]) (rm := ({ frames := 10, cells := 2, slots := 12, locals := 200 } : Room)) B rfl
  subst hsz
  have hD := hD0.self (sz := s.heap.size)
  generalize hAe : va_A [(h, .inr (1, [.ref m0, .ref aml, .ref amb, .ref t0, .ref atl, .ref att, .ref ate, .ref b0, .ref asb, .ref r0, .ref asr, .int trp])), (m0, .inr (0, [.int 12288, .ref m1, .ref m2, .ref m3, .int mC, .int mU])), (m1, .inl (G.2.1 0, 6, .inl mS)), (m2, .inl (G.2.1 0, 6, .inl mL)), (m3, .inl (G.2.1 2, 6, .inl mD)), (amb, .inl (G.2.1 1, 12288, .inl fmb))] s.heap.size = A at hD hcx ⊢
  have hA : ∀ q : Nat, s.heap.size ≤ q → A q := fun q h => by rw [← hAe]; exact Or.inr h
  have hS : va_S A s.heap s.heap [] := va_S.rf
  have hts := hcx.now.1 [.ref h, .int k, .int to, .int fr, .int cn].toArray
  have hK := hcx.now.2.1
  have hl := lv_entry ([.ref h, .int k, .int to, .int fr, .int cn]) (n := 6) (Nat.le_of_ble_eq_true rfl)
  rw [lg_entry_eq]
  generalize (lg_sl ([.ref h, .int k, .int to, .int fr, .int cn]) ++ List.replicate (6 - (lg_sl ([.ref h, .int k, .int to, .int fr, .int cn])).length) Slot.unset).toArray = ls at hl ⊢
  have hl : lv_has ls 6 [(0, .ref h), (1, .int k), (2, .int to), (3, .int fr), (4, .int cn)] := hl
  unfold wp_Lw_copy at hw
  refine lv_aload_n hx hb d_Lw_copy_0 rfl (lv_at hl 0 rfl) ?_
  refine lv_iload_n hx hb d_Lw_copy_1 rfl (lv_at hl 1 rfl) ?_
  refine lv_iload_n hx hb d_Lw_copy_2 rfl (lv_at hl 2 rfl) ?_
  refine lv_iload_n hx hb d_Lw_copy_3 rfl (lv_at hl 3 rfl) ?_
  refine lv_iload hx hb d_Lw_copy_4 (lv_at hl 4 rfl) ?_
  have hPc := hP.sub (ws' := [(h, .inr (1, [.ref m0, .ref aml, .ref amb, .ref t0, .ref atl, .ref att, .ref ate, .ref b0, .ref asb, .ref r0, .ref asr, .int trp])), (m0, .inr (0, [.int 12288, .ref m1, .ref m2, .ref m3, .int mC, .int mU])), (m1, .inl (G.2.1 0, 6, .inl mS)), (m2, .inl (G.2.1 0, 6, .inl mL)), (m3, .inl (G.2.1 2, 6, .inl mD)), (amb, .inl (G.2.1 1, 12288, .inl fmb))]) [0, 1, 2, 3, 4, 5] rfl
  have hDc := hD.sub (ws' := [(h, .inr (1, [.ref m0, .ref aml, .ref amb, .ref t0, .ref atl, .ref att, .ref ate, .ref b0, .ref asb, .ref r0, .ref asr, .int trp])), (m0, .inr (0, [.int 12288, .ref m1, .ref m2, .ref m3, .int mC, .int mU])), (m1, .inl (G.2.1 0, 6, .inl mS)), (m2, .inl (G.2.1 0, 6, .inl mL)), (m3, .inl (G.2.1 2, 6, .inl mD)), (amb, .inl (G.2.1 1, 12288, .inl fmb))]) [0, 1, 2, 3, 4, 5] (by decide) rfl
  have hFc := va_free (wc := [(h, .inr (1, [.ref m0, .ref aml, .ref amb, .ref t0, .ref atl, .ref att, .ref ate, .ref b0, .ref asb, .ref r0, .ref asr, .int trp])), (m0, .inr (0, [.int 12288, .ref m1, .ref m2, .ref m3, .int mC, .int mU])), (m1, .inl (G.2.1 0, 6, .inl mS)), (m2, .inl (G.2.1 0, 6, .inl mL)), (m3, .inl (G.2.1 2, 6, .inl mD)), (amb, .inl (G.2.1 1, 12288, .inl fmb))]) hD hS hA [0, 1, 2, 3, 4, 5] rfl
  refine tx_v (tr_runV (As := [.int k, .int to, .int fr, .int cn]) (rest := []) ⟨hx, hb, hml, hown, hts⟩ (t_Pm_copy l hst G h m0 aml amb t0 atl att ate b0 asb r0 asr m1 m2 m3 trp mC mU mS mL mD fmb k to fr cn _ _ _ hw) (cwV 4 hts (gi_V ml_Lw_25 im_Pm_copy se_Pm_copy ini_Pm co_Pm_copy) rfl rfl rfl (by decide +kernel) ⟨Nat.le_of_ble_eq_true rfl, Nat.le_of_ble_eq_true rfl⟩) ⟨cm_blind, va_recv hK hPc (ci := 1) (q0 := 0) rfl rfl, cm_pre hcx hS hPc hDc hFc⟩ rfl rfl hl.1 rfl (lv_room (Nat.le_of_ble_eq_true rfl)) d_Lw_copy_6 ⟨Nat.le_of_ble_eq_true rfl, Nat.le_of_ble_eq_true rfl⟩) hS hP hD hA [0, 1, 2, 3, 4, 5] rfl (fun _ => rfl) (fun _ => rfl) (fun E_3 u_2 hw q9 ce9 H locs hP hD hS h91 h92 h93 => ?_) (fun u_2 H locs hw hP hD hS => ?_)
  · have hE : E_3 = E_ill ∨ E_3 = E_uns := hw.2.2
    rcases hE with hE | hE
    · subst hE
      replace hw := hw.1 rfl
      have hP : va_P G.1 vwC [(h, .inr (1, [.ref m0, .ref aml, .ref amb, .ref t0, .ref atl, .ref att, .ref ate, .ref b0, .ref asb, .ref r0, .ref asr, .int u_2.1])), (m0, .inr (0, [.int 12288, .ref m1, .ref m2, .ref m3, .int mC, .int mU])), (m1, .inl (G.2.1 0, 6, .inl mS)), (m2, .inl (G.2.1 0, 6, .inl mL)), (m3, .inl (G.2.1 2, 6, .inl mD)), (amb, .inl (G.2.1 1, 12288, .inl u_2.2))] H := hP
      have hD : va_D A [(h, .inr (1, [.ref m0, .ref aml, .ref amb, .ref t0, .ref atl, .ref att, .ref ate, .ref b0, .ref asb, .ref r0, .ref asr, .int u_2.1])), (m0, .inr (0, [.int 12288, .ref m1, .ref m2, .ref m3, .int mC, .int mU])), (m1, .inl (G.2.1 0, 6, .inl mS)), (m2, .inl (G.2.1 0, 6, .inl mL)), (m3, .inl (G.2.1 2, 6, .inl mD)), (amb, .inl (G.2.1 1, 12288, .inl u_2.2))] := hD
      refine ct_1h hown htb (by decide) (by decide) (by decide) (hts _ cl_Lw_13) (hcx.now.2.2.1 _ _ hc_ill) h91 h92 h93 ?_
      refine lv_astore (lv' := [(5, .ref q9), (0, .ref h), (1, .int k), (2, .int to), (3, .int fr), (4, .int cn)]) hx hb d_Lw_copy_12 hl (by decide) rfl (fun ls hl => ?_)
      refine lv_iconst (v := 1) hx hb d_Lw_copy_14 (by decide) ?_
      exact W.iret (v := 1) hx hb hr (fun t ht hW => ⟨⟨1, (u_2.1, u_2.2), rfl, hw, by have h9 := hP; rw [← ht] at h9; exact h9⟩, hS.F ht⟩) hS.2.2 d_Lw_copy_15
    · subst hE
      replace hw := hw.2.1 rfl
      have hP : va_P G.1 vwC [(h, .inr (1, [.ref m0, .ref aml, .ref amb, .ref t0, .ref atl, .ref att, .ref ate, .ref b0, .ref asb, .ref r0, .ref asr, .int u_2.1])), (m0, .inr (0, [.int 12288, .ref m1, .ref m2, .ref m3, .int mC, .int mU])), (m1, .inl (G.2.1 0, 6, .inl mS)), (m2, .inl (G.2.1 0, 6, .inl mL)), (m3, .inl (G.2.1 2, 6, .inl mD)), (amb, .inl (G.2.1 1, 12288, .inl u_2.2))] H := hP
      have hD : va_D A [(h, .inr (1, [.ref m0, .ref aml, .ref amb, .ref t0, .ref atl, .ref att, .ref ate, .ref b0, .ref asb, .ref r0, .ref asr, .int u_2.1])), (m0, .inr (0, [.int 12288, .ref m1, .ref m2, .ref m3, .int mC, .int mU])), (m1, .inl (G.2.1 0, 6, .inl mS)), (m2, .inl (G.2.1 0, 6, .inl mL)), (m3, .inl (G.2.1 2, 6, .inl mD)), (amb, .inl (G.2.1 1, 12288, .inl u_2.2))] := hD
      refine ct_2h hown htb (by decide) (by decide) (by decide) (by decide) (by decide) (by decide) (hts _ cl_Lw_13) hcx.now.2.2.2.2.2.2 (hts _ cl_Lw_15) (hcx.now.2.2.1 _ _ hc_uns) h91 h92 h93 ?_
      refine lv_astore (lv' := [(5, .ref q9), (0, .ref h), (1, .int k), (2, .int to), (3, .int fr), (4, .int cn)]) hx hb d_Lw_copy_16 hl (by decide) rfl (fun ls hl => ?_)
      refine lv_iconst (v := 2) hx hb d_Lw_copy_18 (by decide) ?_
      exact W.iret (v := 2) hx hb hr (fun t ht hW => ⟨⟨2, (u_2.1, u_2.2), rfl, hw, by have h9 := hP; rw [← ht] at h9; exact h9⟩, hS.F ht⟩) hS.2.2 d_Lw_copy_19
  · have hP : va_P G.1 vwC [(h, .inr (1, [.ref m0, .ref aml, .ref amb, .ref t0, .ref atl, .ref att, .ref ate, .ref b0, .ref asb, .ref r0, .ref asr, .int u_2.1])), (m0, .inr (0, [.int 12288, .ref m1, .ref m2, .ref m3, .int mC, .int mU])), (m1, .inl (G.2.1 0, 6, .inl mS)), (m2, .inl (G.2.1 0, 6, .inl mL)), (m3, .inl (G.2.1 2, 6, .inl mD)), (amb, .inl (G.2.1 1, 12288, .inl u_2.2))] H := hP
    have hD : va_D A [(h, .inr (1, [.ref m0, .ref aml, .ref amb, .ref t0, .ref atl, .ref att, .ref ate, .ref b0, .ref asb, .ref r0, .ref asr, .int u_2.1])), (m0, .inr (0, [.int 12288, .ref m1, .ref m2, .ref m3, .int mC, .int mU])), (m1, .inl (G.2.1 0, 6, .inl mS)), (m2, .inl (G.2.1 0, 6, .inl mL)), (m3, .inl (G.2.1 2, 6, .inl mD)), (amb, .inl (G.2.1 1, 12288, .inl u_2.2))] := hD
    refine lv_goto (tgt := 20) hx hb d_Lw_copy_9 (by decide) ?_
    refine lv_iconst (v := 0) hx hb d_Lw_copy_20 (by decide) ?_
    exact W.iret (v := 0) hx hb hr (fun t ht hW => ⟨⟨0, (u_2.1, u_2.2), rfl, hw, by have h9 := hP; rw [← ht] at h9; exact h9⟩, hS.F ht⟩) hS.2.2 d_Lw_copy_21
def wp_Lw_init (post : Int32 → (Int32 × (Nat → Int32)) → Prop) (trp : Int32) (mC : Int32) (mU : Int32) (mS : Nat → Int32) (mL : Nat → Int32) (mD : Nat → Int32) (bC : Int32) (bU : Int32) (bS : Nat → Int32) (bL : Nat → Int32) (bD : Nat → Int32) (fmb : Nat → Int32) (fsb : Nat → Int32) (k : Int32) (sg : Int32) (to : Int32) (fr : Int32) (cn : Int32) : Prop := wp_Pm_init (fun u_2 => post 0 (u_2.1, u_2.2)) (fun E_3 u_2 => ((E_3 = E_ill → (post 1 (u_2.1, u_2.2))) ∧ (E_3 = E_uns → (post 2 (u_2.1, u_2.2))) ∧ (E_3 = E_ill ∨ E_3 = E_uns))) trp mC mU mS mL mD bC bU bS bL bD fmb fsb k sg to fr cn
set_option maxHeartbeats 4000000 in
set_option maxRecDepth 100000 in
theorem t_Lw_init (l : Launch) (hst : l.stackTraces = false) (G : cxT) (h : Nat) (m0 : Nat) (aml : Nat) (amb : Nat) (t0 : Nat) (atl : Nat) (att : Nat) (ate : Nat) (b0 : Nat) (asb : Nat) (r0 : Nat) (asr : Nat) (m1 : Nat) (m2 : Nat) (m3 : Nat) (b1 : Nat) (b2 : Nat) (b3 : Nat) (trp : Int32) (mC : Int32) (mU : Int32) (mS : Nat → Int32) (mL : Nat → Int32) (mD : Nat → Int32) (bC : Int32) (bU : Int32) (bS : Nat → Int32) (bL : Nat → Int32) (bD : Nat → Int32) (fmb : Nat → Int32) (fsb : Nat → Int32) (k : Int32) (sg : Int32) (to : Int32) (fr : Int32) (cn : Int32) (sz : Nat) (post : Int32 → (Int32 × (Nat → Int32)) → Prop) (hw : wp_Lw_init post trp mC mU mS mL mD bC bU bS bL bD fmb fsb k sg to fr cn) : Met l y_Lw_init [.codeWith y_Lw_init b_Lw_init 7 (some .int) [(0, 11, 14, 13), (0, 11, 18, 15)]] ({ frames := 10, cells := 2, slots := 12, locals := 200 } : Room) (cm G [.ref h, .int k, .int sg, .int to, .int fr, .int cn] [(h, .inr (1, [.ref m0, .ref aml, .ref amb, .ref t0, .ref atl, .ref att, .ref ate, .ref b0, .ref asb, .ref r0, .ref asr, .int trp])), (m0, .inr (0, [.int 12288, .ref m1, .ref m2, .ref m3, .int mC, .int mU])), (m1, .inl (G.2.1 0, 6, .inl mS)), (m2, .inl (G.2.1 0, 6, .inl mL)), (m3, .inl (G.2.1 2, 6, .inl mD)), (b0, .inr (0, [.int 600, .ref b1, .ref b2, .ref b3, .int bC, .int bU])), (b1, .inl (G.2.1 0, 24, .inl bS)), (b2, .inl (G.2.1 0, 24, .inl bL)), (b3, .inl (G.2.1 2, 24, .inl bD)), (amb, .inl (G.2.1 1, 12288, .inl fmb)), (asb, .inl (G.2.1 1, 600, .inl fsb))] sz) (va_Qi post (fun u t => va_P G.1 vwC [(h, .inr (1, [.ref m0, .ref aml, .ref amb, .ref t0, .ref atl, .ref att, .ref ate, .ref b0, .ref asb, .ref r0, .ref asr, .int u.1])), (m0, .inr (0, [.int 12288, .ref m1, .ref m2, .ref m3, .int mC, .int mU])), (m1, .inl (G.2.1 0, 6, .inl mS)), (m2, .inl (G.2.1 0, 6, .inl mL)), (m3, .inl (G.2.1 2, 6, .inl mD)), (b0, .inr (0, [.int 600, .ref b1, .ref b2, .ref b3, .int bC, .int bU])), (b1, .inl (G.2.1 0, 24, .inl bS)), (b2, .inl (G.2.1 0, 24, .inl bL)), (b3, .inl (G.2.1 2, 24, .inl bD)), (amb, .inl (G.2.1 1, 12288, .inl u.2)), (asb, .inl (G.2.1 1, 600, .inl fsb))] t.heap) (va_A [(h, .inr (1, [.ref m0, .ref aml, .ref amb, .ref t0, .ref atl, .ref att, .ref ate, .ref b0, .ref asb, .ref r0, .ref asr, .int trp])), (m0, .inr (0, [.int 12288, .ref m1, .ref m2, .ref m3, .int mC, .int mU])), (m1, .inl (G.2.1 0, 6, .inl mS)), (m2, .inl (G.2.1 0, 6, .inl mL)), (m3, .inl (G.2.1 2, 6, .inl mD)), (b0, .inr (0, [.int 600, .ref b1, .ref b2, .ref b3, .int bC, .int bU])), (b1, .inl (G.2.1 0, 24, .inl bS)), (b2, .inl (G.2.1 0, 24, .inl bL)), (b3, .inl (G.2.1 2, 24, .inl bD)), (amb, .inl (G.2.1 1, 12288, .inl fmb)), (asb, .inl (G.2.1 1, 600, .inl fsb))] sz)) 2 12 (va_A [(h, .inr (1, [.ref m0, .ref aml, .ref amb, .ref t0, .ref atl, .ref att, .ref ate, .ref b0, .ref asb, .ref r0, .ref asr, .int trp])), (m0, .inr (0, [.int 12288, .ref m1, .ref m2, .ref m3, .int mC, .int mU])), (m1, .inl (G.2.1 0, 6, .inl mS)), (m2, .inl (G.2.1 0, 6, .inl mL)), (m3, .inl (G.2.1 2, 6, .inl mD)), (b0, .inr (0, [.int 600, .ref b1, .ref b2, .ref b3, .int bC, .int bU])), (b1, .inl (G.2.1 0, 24, .inl bS)), (b2, .inl (G.2.1 0, 24, .inl bL)), (b3, .inl (G.2.1 2, 24, .inl bD)), (amb, .inl (G.2.1 1, 12288, .inl fmb)), (asb, .inl (G.2.1 1, 600, .inl fsb))] sz) := by
  refine va_MetW (cc := b_Lw_init) (maxL := 7) (ret := (some .int)) (by decide +kernel) rfl ?_
  intro p e s m args below meth c s₁ B hml hv
  obtain ⟨rfl, hsz, hcx, hP, hD0⟩ := hv
  have hx := B.exec
  have hb := B.bytes
  have hr := B.returns
  have hlocks := B.notSynchronized
  have hown : s.vm.findClass R_Lw = some m.cls := findClass_of_methodNamed B.named
  have htb := ct_table (ws := [.codeWith y_Lw_init b_Lw_init 7 (some .int) [(0, 11, 14, 13), (0, 11, 18, 15)]]) (rm := ({ frames := 10, cells := 2, slots := 12, locals := 200 } : Room)) B rfl
  subst hsz
  have hD := hD0.self (sz := s.heap.size)
  generalize hAe : va_A [(h, .inr (1, [.ref m0, .ref aml, .ref amb, .ref t0, .ref atl, .ref att, .ref ate, .ref b0, .ref asb, .ref r0, .ref asr, .int trp])), (m0, .inr (0, [.int 12288, .ref m1, .ref m2, .ref m3, .int mC, .int mU])), (m1, .inl (G.2.1 0, 6, .inl mS)), (m2, .inl (G.2.1 0, 6, .inl mL)), (m3, .inl (G.2.1 2, 6, .inl mD)), (b0, .inr (0, [.int 600, .ref b1, .ref b2, .ref b3, .int bC, .int bU])), (b1, .inl (G.2.1 0, 24, .inl bS)), (b2, .inl (G.2.1 0, 24, .inl bL)), (b3, .inl (G.2.1 2, 24, .inl bD)), (amb, .inl (G.2.1 1, 12288, .inl fmb)), (asb, .inl (G.2.1 1, 600, .inl fsb))] s.heap.size = A at hD hcx ⊢
  have hA : ∀ q : Nat, s.heap.size ≤ q → A q := fun q h => by rw [← hAe]; exact Or.inr h
  have hS : va_S A s.heap s.heap [] := va_S.rf
  have hts := hcx.now.1 [.ref h, .int k, .int sg, .int to, .int fr, .int cn].toArray
  have hK := hcx.now.2.1
  have hl := lv_entry ([.ref h, .int k, .int sg, .int to, .int fr, .int cn]) (n := 7) (Nat.le_of_ble_eq_true rfl)
  rw [lg_entry_eq]
  generalize (lg_sl ([.ref h, .int k, .int sg, .int to, .int fr, .int cn]) ++ List.replicate (7 - (lg_sl ([.ref h, .int k, .int sg, .int to, .int fr, .int cn])).length) Slot.unset).toArray = ls at hl ⊢
  have hl : lv_has ls 7 [(0, .ref h), (1, .int k), (2, .int sg), (3, .int to), (4, .int fr), (5, .int cn)] := hl
  unfold wp_Lw_init at hw
  refine lv_aload_n hx hb d_Lw_init_0 rfl (lv_at hl 0 rfl) ?_
  refine lv_iload_n hx hb d_Lw_init_1 rfl (lv_at hl 1 rfl) ?_
  refine lv_iload_n hx hb d_Lw_init_2 rfl (lv_at hl 2 rfl) ?_
  refine lv_iload_n hx hb d_Lw_init_3 rfl (lv_at hl 3 rfl) ?_
  refine lv_iload hx hb d_Lw_init_4 (lv_at hl 4 rfl) ?_
  refine lv_iload hx hb d_Lw_init_6 (lv_at hl 5 rfl) ?_
  have hPc := hP.sub (ws' := [(h, .inr (1, [.ref m0, .ref aml, .ref amb, .ref t0, .ref atl, .ref att, .ref ate, .ref b0, .ref asb, .ref r0, .ref asr, .int trp])), (m0, .inr (0, [.int 12288, .ref m1, .ref m2, .ref m3, .int mC, .int mU])), (m1, .inl (G.2.1 0, 6, .inl mS)), (m2, .inl (G.2.1 0, 6, .inl mL)), (m3, .inl (G.2.1 2, 6, .inl mD)), (b0, .inr (0, [.int 600, .ref b1, .ref b2, .ref b3, .int bC, .int bU])), (b1, .inl (G.2.1 0, 24, .inl bS)), (b2, .inl (G.2.1 0, 24, .inl bL)), (b3, .inl (G.2.1 2, 24, .inl bD)), (amb, .inl (G.2.1 1, 12288, .inl fmb)), (asb, .inl (G.2.1 1, 600, .inl fsb))]) [0, 1, 2, 3, 4, 5, 6, 7, 8, 9, 10] rfl
  have hDc := hD.sub (ws' := [(h, .inr (1, [.ref m0, .ref aml, .ref amb, .ref t0, .ref atl, .ref att, .ref ate, .ref b0, .ref asb, .ref r0, .ref asr, .int trp])), (m0, .inr (0, [.int 12288, .ref m1, .ref m2, .ref m3, .int mC, .int mU])), (m1, .inl (G.2.1 0, 6, .inl mS)), (m2, .inl (G.2.1 0, 6, .inl mL)), (m3, .inl (G.2.1 2, 6, .inl mD)), (b0, .inr (0, [.int 600, .ref b1, .ref b2, .ref b3, .int bC, .int bU])), (b1, .inl (G.2.1 0, 24, .inl bS)), (b2, .inl (G.2.1 0, 24, .inl bL)), (b3, .inl (G.2.1 2, 24, .inl bD)), (amb, .inl (G.2.1 1, 12288, .inl fmb)), (asb, .inl (G.2.1 1, 600, .inl fsb))]) [0, 1, 2, 3, 4, 5, 6, 7, 8, 9, 10] (by decide) rfl
  have hFc := va_free (wc := [(h, .inr (1, [.ref m0, .ref aml, .ref amb, .ref t0, .ref atl, .ref att, .ref ate, .ref b0, .ref asb, .ref r0, .ref asr, .int trp])), (m0, .inr (0, [.int 12288, .ref m1, .ref m2, .ref m3, .int mC, .int mU])), (m1, .inl (G.2.1 0, 6, .inl mS)), (m2, .inl (G.2.1 0, 6, .inl mL)), (m3, .inl (G.2.1 2, 6, .inl mD)), (b0, .inr (0, [.int 600, .ref b1, .ref b2, .ref b3, .int bC, .int bU])), (b1, .inl (G.2.1 0, 24, .inl bS)), (b2, .inl (G.2.1 0, 24, .inl bL)), (b3, .inl (G.2.1 2, 24, .inl bD)), (amb, .inl (G.2.1 1, 12288, .inl fmb)), (asb, .inl (G.2.1 1, 600, .inl fsb))]) hD hS hA [0, 1, 2, 3, 4, 5, 6, 7, 8, 9, 10] rfl
  refine tx_v (tr_runV (As := [.int k, .int sg, .int to, .int fr, .int cn]) (rest := []) ⟨hx, hb, hml, hown, hts⟩ (t_Pm_init l hst G h m0 aml amb t0 atl att ate b0 asb r0 asr m1 m2 m3 b1 b2 b3 trp mC mU mS mL mD bC bU bS bL bD fmb fsb k sg to fr cn _ _ _ hw) (cwV 5 hts (gi_V ml_Lw_28 im_Pm_init se_Pm_init ini_Pm co_Pm_init) rfl rfl rfl (by decide +kernel) ⟨Nat.le_of_ble_eq_true rfl, Nat.le_of_ble_eq_true rfl⟩) ⟨cm_blind, va_recv hK hPc (ci := 1) (q0 := 0) rfl rfl, cm_pre hcx hS hPc hDc hFc⟩ rfl rfl hl.1 rfl (lv_room (Nat.le_of_ble_eq_true rfl)) d_Lw_init_8 ⟨Nat.le_of_ble_eq_true rfl, Nat.le_of_ble_eq_true rfl⟩) hS hP hD hA [0, 1, 2, 3, 4, 5, 6, 7, 8, 9, 10] rfl (fun _ => rfl) (fun _ => rfl) (fun E_3 u_2 hw q9 ce9 H locs hP hD hS h91 h92 h93 => ?_) (fun u_2 H locs hw hP hD hS => ?_)
  · have hE : E_3 = E_ill ∨ E_3 = E_uns := hw.2.2
    rcases hE with hE | hE
    · subst hE
      replace hw := hw.1 rfl
      have hP : va_P G.1 vwC [(h, .inr (1, [.ref m0, .ref aml, .ref amb, .ref t0, .ref atl, .ref att, .ref ate, .ref b0, .ref asb, .ref r0, .ref asr, .int u_2.1])), (m0, .inr (0, [.int 12288, .ref m1, .ref m2, .ref m3, .int mC, .int mU])), (m1, .inl (G.2.1 0, 6, .inl mS)), (m2, .inl (G.2.1 0, 6, .inl mL)), (m3, .inl (G.2.1 2, 6, .inl mD)), (b0, .inr (0, [.int 600, .ref b1, .ref b2, .ref b3, .int bC, .int bU])), (b1, .inl (G.2.1 0, 24, .inl bS)), (b2, .inl (G.2.1 0, 24, .inl bL)), (b3, .inl (G.2.1 2, 24, .inl bD)), (amb, .inl (G.2.1 1, 12288, .inl u_2.2)), (asb, .inl (G.2.1 1, 600, .inl fsb))] H := hP
      have hD : va_D A [(h, .inr (1, [.ref m0, .ref aml, .ref amb, .ref t0, .ref atl, .ref att, .ref ate, .ref b0, .ref asb, .ref r0, .ref asr, .int u_2.1])), (m0, .inr (0, [.int 12288, .ref m1, .ref m2, .ref m3, .int mC, .int mU])), (m1, .inl (G.2.1 0, 6, .inl mS)), (m2, .inl (G.2.1 0, 6, .inl mL)), (m3, .inl (G.2.1 2, 6, .inl mD)), (b0, .inr (0, [.int 600, .ref b1, .ref b2, .ref b3, .int bC, .int bU])), (b1, .inl (G.2.1 0, 24, .inl bS)), (b2, .inl (G.2.1 0, 24, .inl bL)), (b3, .inl (G.2.1 2, 24, .inl bD)), (amb, .inl (G.2.1 1, 12288, .inl u_2.2)), (asb, .inl (G.2.1 1, 600, .inl fsb))] := hD
      refine ct_1h hown htb (by decide) (by decide) (by decide) (hts _ cl_Lw_13) (hcx.now.2.2.1 _ _ hc_ill) h91 h92 h93 ?_
      refine lv_astore (lv' := [(6, .ref q9), (0, .ref h), (1, .int k), (2, .int sg), (3, .int to), (4, .int fr), (5, .int cn)]) hx hb d_Lw_init_14 hl (by decide) rfl (fun ls hl => ?_)
      refine lv_iconst (v := 1) hx hb d_Lw_init_16 (by decide) ?_
      exact W.iret (v := 1) hx hb hr (fun t ht hW => ⟨⟨1, (u_2.1, u_2.2), rfl, hw, by have h9 := hP; rw [← ht] at h9; exact h9⟩, hS.F ht⟩) hS.2.2 d_Lw_init_17
    · subst hE
      replace hw := hw.2.1 rfl
      have hP : va_P G.1 vwC [(h, .inr (1, [.ref m0, .ref aml, .ref amb, .ref t0, .ref atl, .ref att, .ref ate, .ref b0, .ref asb, .ref r0, .ref asr, .int u_2.1])), (m0, .inr (0, [.int 12288, .ref m1, .ref m2, .ref m3, .int mC, .int mU])), (m1, .inl (G.2.1 0, 6, .inl mS)), (m2, .inl (G.2.1 0, 6, .inl mL)), (m3, .inl (G.2.1 2, 6, .inl mD)), (b0, .inr (0, [.int 600, .ref b1, .ref b2, .ref b3, .int bC, .int bU])), (b1, .inl (G.2.1 0, 24, .inl bS)), (b2, .inl (G.2.1 0, 24, .inl bL)), (b3, .inl (G.2.1 2, 24, .inl bD)), (amb, .inl (G.2.1 1, 12288, .inl u_2.2)), (asb, .inl (G.2.1 1, 600, .inl fsb))] H := hP
      have hD : va_D A [(h, .inr (1, [.ref m0, .ref aml, .ref amb, .ref t0, .ref atl, .ref att, .ref ate, .ref b0, .ref asb, .ref r0, .ref asr, .int u_2.1])), (m0, .inr (0, [.int 12288, .ref m1, .ref m2, .ref m3, .int mC, .int mU])), (m1, .inl (G.2.1 0, 6, .inl mS)), (m2, .inl (G.2.1 0, 6, .inl mL)), (m3, .inl (G.2.1 2, 6, .inl mD)), (b0, .inr (0, [.int 600, .ref b1, .ref b2, .ref b3, .int bC, .int bU])), (b1, .inl (G.2.1 0, 24, .inl bS)), (b2, .inl (G.2.1 0, 24, .inl bL)), (b3, .inl (G.2.1 2, 24, .inl bD)), (amb, .inl (G.2.1 1, 12288, .inl u_2.2)), (asb, .inl (G.2.1 1, 600, .inl fsb))] := hD
      refine ct_2h hown htb (by decide) (by decide) (by decide) (by decide) (by decide) (by decide) (hts _ cl_Lw_13) hcx.now.2.2.2.2.2.2 (hts _ cl_Lw_15) (hcx.now.2.2.1 _ _ hc_uns) h91 h92 h93 ?_
      refine lv_astore (lv' := [(6, .ref q9), (0, .ref h), (1, .int k), (2, .int sg), (3, .int to), (4, .int fr), (5, .int cn)]) hx hb d_Lw_init_18 hl (by decide) rfl (fun ls hl => ?_)
      refine lv_iconst (v := 2) hx hb d_Lw_init_20 (by decide) ?_
      exact W.iret (v := 2) hx hb hr (fun t ht hW => ⟨⟨2, (u_2.1, u_2.2), rfl, hw, by have h9 := hP; rw [← ht] at h9; exact h9⟩, hS.F ht⟩) hS.2.2 d_Lw_init_21
  · have hP : va_P G.1 vwC [(h, .inr (1, [.ref m0, .ref aml, .ref amb, .ref t0, .ref atl, .ref att, .ref ate, .ref b0, .ref asb, .ref r0, .ref asr, .int u_2.1])), (m0, .inr (0, [.int 12288, .ref m1, .ref m2, .ref m3, .int mC, .int mU])), (m1, .inl (G.2.1 0, 6, .inl mS)), (m2, .inl (G.2.1 0, 6, .inl mL)), (m3, .inl (G.2.1 2, 6, .inl mD)), (b0, .inr (0, [.int 600, .ref b1, .ref b2, .ref b3, .int bC, .int bU])), (b1, .inl (G.2.1 0, 24, .inl bS)), (b2, .inl (G.2.1 0, 24, .inl bL)), (b3, .inl (G.2.1 2, 24, .inl bD)), (amb, .inl (G.2.1 1, 12288, .inl u_2.2)), (asb, .inl (G.2.1 1, 600, .inl fsb))] H := hP
    have hD : va_D A [(h, .inr (1, [.ref m0, .ref aml, .ref amb, .ref t0, .ref atl, .ref att, .ref ate, .ref b0, .ref asb, .ref r0, .ref asr, .int u_2.1])), (m0, .inr (0, [.int 12288, .ref m1, .ref m2, .ref m3, .int mC, .int mU])), (m1, .inl (G.2.1 0, 6, .inl mS)), (m2, .inl (G.2.1 0, 6, .inl mL)), (m3, .inl (G.2.1 2, 6, .inl mD)), (b0, .inr (0, [.int 600, .ref b1, .ref b2, .ref b3, .int bC, .int bU])), (b1, .inl (G.2.1 0, 24, .inl bS)), (b2, .inl (G.2.1 0, 24, .inl bL)), (b3, .inl (G.2.1 2, 24, .inl bD)), (amb, .inl (G.2.1 1, 12288, .inl u_2.2)), (asb, .inl (G.2.1 1, 600, .inl fsb))] := hD
    refine lv_goto (tgt := 22) hx hb d_Lw_init_11 (by decide) ?_
    refine lv_iconst (v := 0) hx hb d_Lw_init_22 (by decide) ?_
    exact W.iret (v := 0) hx hb hr (fun t ht hW => ⟨⟨0, (u_2.1, u_2.2), rfl, hw, by have h9 := hP; rw [← ht] at h9; exact h9⟩, hS.F ht⟩) hS.2.2 d_Lw_init_23
def wp_Lw_drop (post : Int32 → ((Nat → Int32) × (Nat → Int32) × (Nat → Int32) × (Nat → Int32)) → Prop) (trp : Int32) (bC : Int32) (bU : Int32) (bS : Nat → Int32) (bL : Nat → Int32) (bD : Nat → Int32) (rC : Int32) (rU : Int32) (rS : Nat → Int32) (rL : Nat → Int32) (rD : Nat → Int32) (sg : Int32) (rf : Int32) : Prop := wp_Pm_drop (fun u_2 => post 0 (u_2.1, u_2.2.1, u_2.2.2.1, u_2.2.2.2)) (fun E_3 u_2 => ((E_3 = E_ill → (post 1 (u_2.1, u_2.2.1, u_2.2.2.1, u_2.2.2.2))) ∧ (E_3 = E_ill))) trp bC bU bS bL bD rC rU rS rL rD sg rf
set_option maxHeartbeats 4000000 in
set_option maxRecDepth 100000 in
theorem t_Lw_drop (l : Launch) (hst : l.stackTraces = false) (G : cxT) (h : Nat) (m0 : Nat) (aml : Nat) (amb : Nat) (t0 : Nat) (atl : Nat) (att : Nat) (ate : Nat) (b0 : Nat) (asb : Nat) (r0 : Nat) (asr : Nat) (b1 : Nat) (b2 : Nat) (b3 : Nat) (r1 : Nat) (r2 : Nat) (r3 : Nat) (trp : Int32) (bC : Int32) (bU : Int32) (bS : Nat → Int32) (bL : Nat → Int32) (bD : Nat → Int32) (rC : Int32) (rU : Int32) (rS : Nat → Int32) (rL : Nat → Int32) (rD : Nat → Int32) (sg : Int32) (rf : Int32) (sz : Nat) (post : Int32 → ((Nat → Int32) × (Nat → Int32) × (Nat → Int32) × (Nat → Int32)) → Prop) (hw : wp_Lw_drop post trp bC bU bS bL bD rC rU rS rL rD sg rf) : Met l y_Lw_drop [.codeWith y_Lw_drop b_Lw_drop 4 (some .int) [(0, 6, 9, 13)]] ({ frames := 10, cells := 1, slots := 6, locals := 200 } : Room) (cm G [.ref h, .int sg, .int rf] [(h, .inr (1, [.ref m0, .ref aml, .ref amb, .ref t0, .ref atl, .ref att, .ref ate, .ref b0, .ref asb, .ref r0, .ref asr, .int trp])), (b0, .inr (0, [.int 600, .ref b1, .ref b2, .ref b3, .int bC, .int bU])), (b1, .inl (G.2.1 0, 24, .inl bS)), (b2, .inl (G.2.1 0, 24, .inl bL)), (b3, .inl (G.2.1 2, 24, .inl bD)), (r0, .inr (0, [.int 200, .ref r1, .ref r2, .ref r3, .int rC, .int rU])), (r1, .inl (G.2.1 0, 24, .inl rS)), (r2, .inl (G.2.1 0, 24, .inl rL)), (r3, .inl (G.2.1 2, 24, .inl rD))] sz) (va_Qi post (fun u t => va_P G.1 vwC [(h, .inr (1, [.ref m0, .ref aml, .ref amb, .ref t0, .ref atl, .ref att, .ref ate, .ref b0, .ref asb, .ref r0, .ref asr, .int trp])), (b0, .inr (0, [.int 600, .ref b1, .ref b2, .ref b3, .int bC, .int bU])), (b1, .inl (G.2.1 0, 24, .inl bS)), (b2, .inl (G.2.1 0, 24, .inl u.1)), (b3, .inl (G.2.1 2, 24, .inl u.2.1)), (r0, .inr (0, [.int 200, .ref r1, .ref r2, .ref r3, .int rC, .int rU])), (r1, .inl (G.2.1 0, 24, .inl rS)), (r2, .inl (G.2.1 0, 24, .inl u.2.2.1)), (r3, .inl (G.2.1 2, 24, .inl u.2.2.2))] t.heap) (va_A [(h, .inr (1, [.ref m0, .ref aml, .ref amb, .ref t0, .ref atl, .ref att, .ref ate, .ref b0, .ref asb, .ref r0, .ref asr, .int trp])), (b0, .inr (0, [.int 600, .ref b1, .ref b2, .ref b3, .int bC, .int bU])), (b1, .inl (G.2.1 0, 24, .inl bS)), (b2, .inl (G.2.1 0, 24, .inl bL)), (b3, .inl (G.2.1 2, 24, .inl bD)), (r0, .inr (0, [.int 200, .ref r1, .ref r2, .ref r3, .int rC, .int rU])), (r1, .inl (G.2.1 0, 24, .inl rS)), (r2, .inl (G.2.1 0, 24, .inl rL)), (r3, .inl (G.2.1 2, 24, .inl rD))] sz)) 1 6 (va_A [(h, .inr (1, [.ref m0, .ref aml, .ref amb, .ref t0, .ref atl, .ref att, .ref ate, .ref b0, .ref asb, .ref r0, .ref asr, .int trp])), (b0, .inr (0, [.int 600, .ref b1, .ref b2, .ref b3, .int bC, .int bU])), (b1, .inl (G.2.1 0, 24, .inl bS)), (b2, .inl (G.2.1 0, 24, .inl bL)), (b3, .inl (G.2.1 2, 24, .inl bD)), (r0, .inr (0, [.int 200, .ref r1, .ref r2, .ref r3, .int rC, .int rU])), (r1, .inl (G.2.1 0, 24, .inl rS)), (r2, .inl (G.2.1 0, 24, .inl rL)), (r3, .inl (G.2.1 2, 24, .inl rD))] sz) := by
  refine va_MetW (cc := b_Lw_drop) (maxL := 4) (ret := (some .int)) (by decide +kernel) rfl ?_
  intro p e s m args below meth c s₁ B hml hv
  obtain ⟨rfl, hsz, hcx, hP, hD0⟩ := hv
  have hx := B.exec
  have hb := B.bytes
  have hr := B.returns
  have hlocks := B.notSynchronized
  have hown : s.vm.findClass R_Lw = some m.cls := findClass_of_methodNamed B.named
  have htb := ct_table (ws := [.codeWith y_Lw_drop b_Lw_drop 4 (some .int) [(0, 6, 9, 13)]]) (rm := ({ frames := 10, cells := 1, slots := 6, locals := 200 } : Room)) B rfl
  subst hsz
  have hD := hD0.self (sz := s.heap.size)
  generalize hAe : va_A [(h, .inr (1, [.ref m0, .ref aml, .ref amb, .ref t0, .ref atl, .ref att, .ref ate, .ref b0, .ref asb, .ref r0, .ref asr, .int trp])), (b0, .inr (0, [.int 600, .ref b1, .ref b2, .ref b3, .int bC, .int bU])), (b1, .inl (G.2.1 0, 24, .inl bS)), (b2, .inl (G.2.1 0, 24, .inl bL)), (b3, .inl (G.2.1 2, 24, .inl bD)), (r0, .inr (0, [.int 200, .ref r1, .ref r2, .ref r3, .int rC, .int rU])), (r1, .inl (G.2.1 0, 24, .inl rS)), (r2, .inl (G.2.1 0, 24, .inl rL)), (r3, .inl (G.2.1 2, 24, .inl rD))] s.heap.size = A at hD hcx ⊢
  have hA : ∀ q : Nat, s.heap.size ≤ q → A q := fun q h => by rw [← hAe]; exact Or.inr h
  have hS : va_S A s.heap s.heap [] := va_S.rf
  have hts := hcx.now.1 [.ref h, .int sg, .int rf].toArray
  have hK := hcx.now.2.1
  have hl := lv_entry ([.ref h, .int sg, .int rf]) (n := 4) (Nat.le_of_ble_eq_true rfl)
  rw [lg_entry_eq]
  generalize (lg_sl ([.ref h, .int sg, .int rf]) ++ List.replicate (4 - (lg_sl ([.ref h, .int sg, .int rf])).length) Slot.unset).toArray = ls at hl ⊢
  have hl : lv_has ls 4 [(0, .ref h), (1, .int sg), (2, .int rf)] := hl
  unfold wp_Lw_drop at hw
  refine lv_aload_n hx hb d_Lw_drop_0 rfl (lv_at hl 0 rfl) ?_
  refine lv_iload_n hx hb d_Lw_drop_1 rfl (lv_at hl 1 rfl) ?_
  refine lv_iload_n hx hb d_Lw_drop_2 rfl (lv_at hl 2 rfl) ?_
  have hPc := hP.sub (ws' := [(h, .inr (1, [.ref m0, .ref aml, .ref amb, .ref t0, .ref atl, .ref att, .ref ate, .ref b0, .ref asb, .ref r0, .ref asr, .int trp])), (b0, .inr (0, [.int 600, .ref b1, .ref b2, .ref b3, .int bC, .int bU])), (b1, .inl (G.2.1 0, 24, .inl bS)), (b2, .inl (G.2.1 0, 24, .inl bL)), (b3, .inl (G.2.1 2, 24, .inl bD)), (r0, .inr (0, [.int 200, .ref r1, .ref r2, .ref r3, .int rC, .int rU])), (r1, .inl (G.2.1 0, 24, .inl rS)), (r2, .inl (G.2.1 0, 24, .inl rL)), (r3, .inl (G.2.1 2, 24, .inl rD))]) [0, 1, 2, 3, 4, 5, 6, 7, 8] rfl
  have hDc := hD.sub (ws' := [(h, .inr (1, [.ref m0, .ref aml, .ref amb, .ref t0, .ref atl, .ref att, .ref ate, .ref b0, .ref asb, .ref r0, .ref asr, .int trp])), (b0, .inr (0, [.int 600, .ref b1, .ref b2, .ref b3, .int bC, .int bU])), (b1, .inl (G.2.1 0, 24, .inl bS)), (b2, .inl (G.2.1 0, 24, .inl bL)), (b3, .inl (G.2.1 2, 24, .inl bD)), (r0, .inr (0, [.int 200, .ref r1, .ref r2, .ref r3, .int rC, .int rU])), (r1, .inl (G.2.1 0, 24, .inl rS)), (r2, .inl (G.2.1 0, 24, .inl rL)), (r3, .inl (G.2.1 2, 24, .inl rD))]) [0, 1, 2, 3, 4, 5, 6, 7, 8] (by decide) rfl
  have hFc := va_free (wc := [(h, .inr (1, [.ref m0, .ref aml, .ref amb, .ref t0, .ref atl, .ref att, .ref ate, .ref b0, .ref asb, .ref r0, .ref asr, .int trp])), (b0, .inr (0, [.int 600, .ref b1, .ref b2, .ref b3, .int bC, .int bU])), (b1, .inl (G.2.1 0, 24, .inl bS)), (b2, .inl (G.2.1 0, 24, .inl bL)), (b3, .inl (G.2.1 2, 24, .inl bD)), (r0, .inr (0, [.int 200, .ref r1, .ref r2, .ref r3, .int rC, .int rU])), (r1, .inl (G.2.1 0, 24, .inl rS)), (r2, .inl (G.2.1 0, 24, .inl rL)), (r3, .inl (G.2.1 2, 24, .inl rD))]) hD hS hA [0, 1, 2, 3, 4, 5, 6, 7, 8] rfl
  refine tx_v (tr_runV (As := [.int sg, .int rf]) (rest := []) ⟨hx, hb, hml, hown, hts⟩ (t_Pm_drop l hst G h m0 aml amb t0 atl att ate b0 asb r0 asr b1 b2 b3 r1 r2 r3 trp bC bU bS bL bD rC rU rS rL rD sg rf _ _ _ hw) (cwV 2 hts (gi_V ml_Lw_32 im_Pm_drop se_Pm_drop ini_Pm co_Pm_drop) rfl rfl rfl (by decide +kernel) ⟨Nat.le_of_ble_eq_true rfl, Nat.le_of_ble_eq_true rfl⟩) ⟨cm_blind, va_recv hK hPc (ci := 1) (q0 := 0) rfl rfl, cm_pre hcx hS hPc hDc hFc⟩ rfl rfl hl.1 rfl (lv_room (Nat.le_of_ble_eq_true rfl)) d_Lw_drop_3 ⟨Nat.le_of_ble_eq_true rfl, Nat.le_of_ble_eq_true rfl⟩) hS hP hD hA [0, 1, 2, 3, 4, 5, 6, 7, 8] rfl (fun _ => rfl) (fun _ => rfl) (fun E_3 u_2 hw q9 ce9 H locs hP hD hS h91 h92 h93 => ?_) (fun u_2 H locs hw hP hD hS => ?_)
  · have hE : E_3 = E_ill := hw.2
    skip
    subst hE
    replace hw := hw.1 rfl
    have hP : va_P G.1 vwC [(h, .inr (1, [.ref m0, .ref aml, .ref amb, .ref t0, .ref atl, .ref att, .ref ate, .ref b0, .ref asb, .ref r0, .ref asr, .int trp])), (b0, .inr (0, [.int 600, .ref b1, .ref b2, .ref b3, .int bC, .int bU])), (b1, .inl (G.2.1 0, 24, .inl bS)), (b2, .inl (G.2.1 0, 24, .inl u_2.1)), (b3, .inl (G.2.1 2, 24, .inl u_2.2.1)), (r0, .inr (0, [.int 200, .ref r1, .ref r2, .ref r3, .int rC, .int rU])), (r1, .inl (G.2.1 0, 24, .inl rS)), (r2, .inl (G.2.1 0, 24, .inl u_2.2.2.1)), (r3, .inl (G.2.1 2, 24, .inl u_2.2.2.2))] H := hP
    have hD : va_D A [(h, .inr (1, [.ref m0, .ref aml, .ref amb, .ref t0, .ref atl, .ref att, .ref ate, .ref b0, .ref asb, .ref r0, .ref asr, .int trp])), (b0, .inr (0, [.int 600, .ref b1, .ref b2, .ref b3, .int bC, .int bU])), (b1, .inl (G.2.1 0, 24, .inl bS)), (b2, .inl (G.2.1 0, 24, .inl u_2.1)), (b3, .inl (G.2.1 2, 24, .inl u_2.2.1)), (r0, .inr (0, [.int 200, .ref r1, .ref r2, .ref r3, .int rC, .int rU])), (r1, .inl (G.2.1 0, 24, .inl rS)), (r2, .inl (G.2.1 0, 24, .inl u_2.2.2.1)), (r3, .inl (G.2.1 2, 24, .inl u_2.2.2.2))] := hD
    refine ct_1h hown htb (by decide) (by decide) (by decide) (hts _ cl_Lw_13) (hcx.now.2.2.1 _ _ hc_ill) h91 h92 h93 ?_
    refine lv_astore_n (lv' := [(3, .ref q9), (0, .ref h), (1, .int sg), (2, .int rf)]) hx hb d_Lw_drop_9 rfl hl (by decide) rfl (fun ls hl => ?_)
    refine lv_iconst (v := 1) hx hb d_Lw_drop_10 (by decide) ?_
    exact W.iret (v := 1) hx hb hr (fun t ht hW => ⟨⟨1, (u_2.1, u_2.2.1, u_2.2.2.1, u_2.2.2.2), rfl, hw, by have h9 := hP; rw [← ht] at h9; exact h9⟩, hS.F ht⟩) hS.2.2 d_Lw_drop_11
  · have hP : va_P G.1 vwC [(h, .inr (1, [.ref m0, .ref aml, .ref amb, .ref t0, .ref atl, .ref att, .ref ate, .ref b0, .ref asb, .ref r0, .ref asr, .int trp])), (b0, .inr (0, [.int 600, .ref b1, .ref b2, .ref b3, .int bC, .int bU])), (b1, .inl (G.2.1 0, 24, .inl bS)), (b2, .inl (G.2.1 0, 24, .inl u_2.1)), (b3, .inl (G.2.1 2, 24, .inl u_2.2.1)), (r0, .inr (0, [.int 200, .ref r1, .ref r2, .ref r3, .int rC, .int rU])), (r1, .inl (G.2.1 0, 24, .inl rS)), (r2, .inl (G.2.1 0, 24, .inl u_2.2.2.1)), (r3, .inl (G.2.1 2, 24, .inl u_2.2.2.2))] H := hP
    have hD : va_D A [(h, .inr (1, [.ref m0, .ref aml, .ref amb, .ref t0, .ref atl, .ref att, .ref ate, .ref b0, .ref asb, .ref r0, .ref asr, .int trp])), (b0, .inr (0, [.int 600, .ref b1, .ref b2, .ref b3, .int bC, .int bU])), (b1, .inl (G.2.1 0, 24, .inl bS)), (b2, .inl (G.2.1 0, 24, .inl u_2.1)), (b3, .inl (G.2.1 2, 24, .inl u_2.2.1)), (r0, .inr (0, [.int 200, .ref r1, .ref r2, .ref r3, .int rC, .int rU])), (r1, .inl (G.2.1 0, 24, .inl rS)), (r2, .inl (G.2.1 0, 24, .inl u_2.2.2.1)), (r3, .inl (G.2.1 2, 24, .inl u_2.2.2.2))] := hD
    refine lv_goto (tgt := 12) hx hb d_Lw_drop_6 (by decide) ?_
    refine lv_iconst (v := 0) hx hb d_Lw_drop_12 (by decide) ?_
    exact W.iret (v := 0) hx hb hr (fun t ht hW => ⟨⟨0, (u_2.1, u_2.2.1, u_2.2.2.1, u_2.2.2.2), rfl, hw, by have h9 := hP; rw [← ht] at h9; exact h9⟩, hS.F ht⟩) hS.2.2 d_Lw_drop_13
def wp_Lw_get (post : Int32 → (Int32 × (Nat → Int64)) → Prop) (trp : Int32) (tC : Int32) (tU : Int32) (tS : Nat → Int32) (tL : Nat → Int32) (tD : Nat → Int32) (fte : Nat → Int32) (fo : Nat → Int64) (k : Int32) (ix : Int32) : Prop := wp_Pm_get (fun r_1 u_2 => (vp_in 0 1) ∧ ∀ a_5 : Nat → Int64, a_5 = vp_updL fo (0 : Int32).toNatClampNeg r_1.toInt64 → (post 0 (u_2, a_5))) (fun E_3 u_2 => ((E_3 = E_ill → (post 1 (u_2, fo))) ∧ (E_3 = E_uns → (post 2 (u_2, fo))) ∧ (E_3 = E_ill ∨ E_3 = E_uns))) trp tC tU tS tL tD fte k ix
set_option maxHeartbeats 4000000 in
set_option maxRecDepth 100000 in
theorem t_Lw_get (l : Launch) (hst : l.stackTraces = false) (G : cxT) (ou : Nat) (h : Nat) (m0 : Nat) (aml : Nat) (amb : Nat) (t0 : Nat) (atl : Nat) (att : Nat) (ate : Nat) (b0 : Nat) (asb : Nat) (r0 : Nat) (asr : Nat) (t1 : Nat) (t2 : Nat) (t3 : Nat) (trp : Int32) (tC : Int32) (tU : Int32) (tS : Nat → Int32) (tL : Nat → Int32) (tD : Nat → Int32) (fte : Nat → Int32) (fo : Nat → Int64) (k : Int32) (ix : Int32) (sz : Nat) (post : Int32 → (Int32 × (Nat → Int64)) → Prop) (hw : wp_Lw_get post trp tC tU tS tL tD fte fo k ix) : Met l y_Lw_get [.codeWith y_Lw_get b_Lw_get 5 (some .int) [(0, 10, 13, 13), (0, 10, 17, 15)]] ({ frames := 10, cells := 1, slots := 6, locals := 200 } : Room) (cm G [.ref h, .int k, .int ix, .ref ou] [(h, .inr (1, [.ref m0, .ref aml, .ref amb, .ref t0, .ref atl, .ref att, .ref ate, .ref b0, .ref asb, .ref r0, .ref asr, .int trp])), (t0, .inr (0, [.int 200, .ref t1, .ref t2, .ref t3, .int tC, .int tU])), (t1, .inl (G.2.1 0, 6, .inl tS)), (t2, .inl (G.2.1 0, 6, .inl tL)), (t3, .inl (G.2.1 2, 6, .inl tD)), (ate, .inl (G.2.1 0, 200, .inl fte)), (ou, .inl (G.2.1 3, 1, .inr (.inl fo)))] sz) (va_Qi post (fun u t => va_P G.1 vwC [(h, .inr (1, [.ref m0, .ref aml, .ref amb, .ref t0, .ref atl, .ref att, .ref ate, .ref b0, .ref asb, .ref r0, .ref asr, .int u.1])), (t0, .inr (0, [.int 200, .ref t1, .ref t2, .ref t3, .int tC, .int tU])), (t1, .inl (G.2.1 0, 6, .inl tS)), (t2, .inl (G.2.1 0, 6, .inl tL)), (t3, .inl (G.2.1 2, 6, .inl tD)), (ate, .inl (G.2.1 0, 200, .inl fte)), (ou, .inl (G.2.1 3, 1, .inr (.inl u.2)))] t.heap) (va_A [(h, .inr (1, [.ref m0, .ref aml, .ref amb, .ref t0, .ref atl, .ref att, .ref ate, .ref b0, .ref asb, .ref r0, .ref asr, .int trp])), (t0, .inr (0, [.int 200, .ref t1, .ref t2, .ref t3, .int tC, .int tU])), (t1, .inl (G.2.1 0, 6, .inl tS)), (t2, .inl (G.2.1 0, 6, .inl tL)), (t3, .inl (G.2.1 2, 6, .inl tD)), (ate, .inl (G.2.1 0, 200, .inl fte)), (ou, .inl (G.2.1 3, 1, .inr (.inl fo)))] sz)) 1 6 (va_A [(h, .inr (1, [.ref m0, .ref aml, .ref amb, .ref t0, .ref atl, .ref att, .ref ate, .ref b0, .ref asb, .ref r0, .ref asr, .int trp])), (t0, .inr (0, [.int 200, .ref t1, .ref t2, .ref t3, .int tC, .int tU])), (t1, .inl (G.2.1 0, 6, .inl tS)), (t2, .inl (G.2.1 0, 6, .inl tL)), (t3, .inl (G.2.1 2, 6, .inl tD)), (ate, .inl (G.2.1 0, 200, .inl fte)), (ou, .inl (G.2.1 3, 1, .inr (.inl fo)))] sz) := by
  refine va_MetW (cc := b_Lw_get) (maxL := 5) (ret := (some .int)) (by decide +kernel) rfl ?_
  intro p e s m args below meth c s₁ B hml hv
  obtain ⟨rfl, hsz, hcx, hP, hD0⟩ := hv
  have hx := B.exec
  have hb := B.bytes
  have hr := B.returns
  have hlocks := B.notSynchronized
  have hown : s.vm.findClass R_Lw = some m.cls := findClass_of_methodNamed B.named
  have htb := ct_table (ws := [.codeWith y_Lw_get b_Lw_get 5 (some .int) [(0, 10, 13, 13), (0, 10, 17, 15)]]) (rm := ({ frames := 10, cells := 1, slots := 6, locals := 200 } : Room)) B rfl
  subst hsz
  have hD := hD0.self (sz := s.heap.size)
  generalize hAe : va_A [(h, .inr (1, [.ref m0, .ref aml, .ref amb, .ref t0, .ref atl, .ref att, .ref ate, .ref b0, .ref asb, .ref r0, .ref asr, .int trp])), (t0, .inr (0, [.int 200, .ref t1, .ref t2, .ref t3, .int tC, .int tU])), (t1, .inl (G.2.1 0, 6, .inl tS)), (t2, .inl (G.2.1 0, 6, .inl tL)), (t3, .inl (G.2.1 2, 6, .inl tD)), (ate, .inl (G.2.1 0, 200, .inl fte)), (ou, .inl (G.2.1 3, 1, .inr (.inl fo)))] s.heap.size = A at hD hcx ⊢
  have hA : ∀ q : Nat, s.heap.size ≤ q → A q := fun q h => by rw [← hAe]; exact Or.inr h
  have hS : va_S A s.heap s.heap [] := va_S.rf
  have hts := hcx.now.1 [.ref h, .int k, .int ix, .ref ou].toArray
  have hK := hcx.now.2.1
  have hl := lv_entry ([.ref h, .int k, .int ix, .ref ou]) (n := 5) (Nat.le_of_ble_eq_true rfl)
  rw [lg_entry_eq]
  generalize (lg_sl ([.ref h, .int k, .int ix, .ref ou]) ++ List.replicate (5 - (lg_sl ([.ref h, .int k, .int ix, .ref ou])).length) Slot.unset).toArray = ls at hl ⊢
  have hl : lv_has ls 5 [(0, .ref h), (1, .int k), (2, .int ix), (3, .ref ou)] := hl
  unfold wp_Lw_get at hw
  refine lv_aload_n hx hb d_Lw_get_0 rfl (lv_at hl 3 rfl) ?_
  refine lv_iconst (v := 0) hx hb d_Lw_get_1 (by decide) ?_
  refine lv_aload_n hx hb d_Lw_get_2 rfl (lv_at hl 0 rfl) ?_
  refine lv_iload_n hx hb d_Lw_get_3 rfl (lv_at hl 1 rfl) ?_
  refine lv_iload_n hx hb d_Lw_get_4 rfl (lv_at hl 2 rfl) ?_
  have hPc := hP.sub (ws' := [(h, .inr (1, [.ref m0, .ref aml, .ref amb, .ref t0, .ref atl, .ref att, .ref ate, .ref b0, .ref asb, .ref r0, .ref asr, .int trp])), (t0, .inr (0, [.int 200, .ref t1, .ref t2, .ref t3, .int tC, .int tU])), (t1, .inl (G.2.1 0, 6, .inl tS)), (t2, .inl (G.2.1 0, 6, .inl tL)), (t3, .inl (G.2.1 2, 6, .inl tD)), (ate, .inl (G.2.1 0, 200, .inl fte))]) [0, 1, 2, 3, 4, 5] rfl
  have hDc := hD.sub (ws' := [(h, .inr (1, [.ref m0, .ref aml, .ref amb, .ref t0, .ref atl, .ref att, .ref ate, .ref b0, .ref asb, .ref r0, .ref asr, .int trp])), (t0, .inr (0, [.int 200, .ref t1, .ref t2, .ref t3, .int tC, .int tU])), (t1, .inl (G.2.1 0, 6, .inl tS)), (t2, .inl (G.2.1 0, 6, .inl tL)), (t3, .inl (G.2.1 2, 6, .inl tD)), (ate, .inl (G.2.1 0, 200, .inl fte))]) [0, 1, 2, 3, 4, 5] (by decide) rfl
  have hFc := va_free (wc := [(h, .inr (1, [.ref m0, .ref aml, .ref amb, .ref t0, .ref atl, .ref att, .ref ate, .ref b0, .ref asb, .ref r0, .ref asr, .int trp])), (t0, .inr (0, [.int 200, .ref t1, .ref t2, .ref t3, .int tC, .int tU])), (t1, .inl (G.2.1 0, 6, .inl tS)), (t2, .inl (G.2.1 0, 6, .inl tL)), (t3, .inl (G.2.1 2, 6, .inl tD)), (ate, .inl (G.2.1 0, 200, .inl fte))]) hD hS hA [0, 1, 2, 3, 4, 5] rfl
  refine tx_i (tr_runV (As := [.int k, .int ix]) (rest := [.int 0, .ref ou]) ⟨hx, hb, hml, hown, hts⟩ (t_Pm_get l hst G h m0 aml amb t0 atl att ate b0 asb r0 asr t1 t2 t3 trp tC tU tS tL tD fte k ix _ _ _ hw) (cwV 2 hts (gi_V ml_Lw_36 im_Pm_get se_Pm_get ini_Pm co_Pm_get) rfl rfl rfl (by decide +kernel) ⟨Nat.le_of_ble_eq_true rfl, Nat.le_of_ble_eq_true rfl⟩) ⟨cm_blind, va_recv hK hPc (ci := 1) (q0 := 0) rfl rfl, cm_pre hcx hS hPc hDc hFc⟩ rfl rfl hl.1 rfl (lv_room (Nat.le_of_ble_eq_true rfl)) d_Lw_get_5 ⟨Nat.le_of_ble_eq_true rfl, Nat.le_of_ble_eq_true rfl⟩) hS hP hD hA [0, 1, 2, 3, 4, 5] rfl (fun _ => rfl) (fun _ => rfl) (fun E_3 u_2 hw q9 ce9 H locs hP hD hS h91 h92 h93 => ?_) (fun r_1 u_2 H locs hw hP hD hS => ?_)
  · have hE : E_3 = E_ill ∨ E_3 = E_uns := hw.2.2
    rcases hE with hE | hE
    · subst hE
      replace hw := hw.1 rfl
      have hP : va_P G.1 vwC [(h, .inr (1, [.ref m0, .ref aml, .ref amb, .ref t0, .ref atl, .ref att, .ref ate, .ref b0, .ref asb, .ref r0, .ref asr, .int u_2])), (t0, .inr (0, [.int 200, .ref t1, .ref t2, .ref t3, .int tC, .int tU])), (t1, .inl (G.2.1 0, 6, .inl tS)), (t2, .inl (G.2.1 0, 6, .inl tL)), (t3, .inl (G.2.1 2, 6, .inl tD)), (ate, .inl (G.2.1 0, 200, .inl fte)), (ou, .inl (G.2.1 3, 1, .inr (.inl fo)))] H := hP
      have hD : va_D A [(h, .inr (1, [.ref m0, .ref aml, .ref amb, .ref t0, .ref atl, .ref att, .ref ate, .ref b0, .ref asb, .ref r0, .ref asr, .int u_2])), (t0, .inr (0, [.int 200, .ref t1, .ref t2, .ref t3, .int tC, .int tU])), (t1, .inl (G.2.1 0, 6, .inl tS)), (t2, .inl (G.2.1 0, 6, .inl tL)), (t3, .inl (G.2.1 2, 6, .inl tD)), (ate, .inl (G.2.1 0, 200, .inl fte)), (ou, .inl (G.2.1 3, 1, .inr (.inl fo)))] := hD
      refine ct_1h hown htb (by decide) (by decide) (by decide) (hts _ cl_Lw_13) (hcx.now.2.2.1 _ _ hc_ill) h91 h92 h93 ?_
      refine lv_astore (lv' := [(4, .ref q9), (0, .ref h), (1, .int k), (2, .int ix), (3, .ref ou)]) hx hb d_Lw_get_13 hl (by decide) rfl (fun ls hl => ?_)
      refine lv_iconst (v := 1) hx hb d_Lw_get_15 (by decide) ?_
      exact W.iret (v := 1) hx hb hr (fun t ht hW => ⟨⟨1, (u_2, fo), rfl, hw, by have h9 := hP; rw [← ht] at h9; exact h9⟩, hS.F ht⟩) hS.2.2 d_Lw_get_16
    · subst hE
      replace hw := hw.2.1 rfl
      have hP : va_P G.1 vwC [(h, .inr (1, [.ref m0, .ref aml, .ref amb, .ref t0, .ref atl, .ref att, .ref ate, .ref b0, .ref asb, .ref r0, .ref asr, .int u_2])), (t0, .inr (0, [.int 200, .ref t1, .ref t2, .ref t3, .int tC, .int tU])), (t1, .inl (G.2.1 0, 6, .inl tS)), (t2, .inl (G.2.1 0, 6, .inl tL)), (t3, .inl (G.2.1 2, 6, .inl tD)), (ate, .inl (G.2.1 0, 200, .inl fte)), (ou, .inl (G.2.1 3, 1, .inr (.inl fo)))] H := hP
      have hD : va_D A [(h, .inr (1, [.ref m0, .ref aml, .ref amb, .ref t0, .ref atl, .ref att, .ref ate, .ref b0, .ref asb, .ref r0, .ref asr, .int u_2])), (t0, .inr (0, [.int 200, .ref t1, .ref t2, .ref t3, .int tC, .int tU])), (t1, .inl (G.2.1 0, 6, .inl tS)), (t2, .inl (G.2.1 0, 6, .inl tL)), (t3, .inl (G.2.1 2, 6, .inl tD)), (ate, .inl (G.2.1 0, 200, .inl fte)), (ou, .inl (G.2.1 3, 1, .inr (.inl fo)))] := hD
      refine ct_2h hown htb (by decide) (by decide) (by decide) (by decide) (by decide) (by decide) (hts _ cl_Lw_13) hcx.now.2.2.2.2.2.2 (hts _ cl_Lw_15) (hcx.now.2.2.1 _ _ hc_uns) h91 h92 h93 ?_
      refine lv_astore (lv' := [(4, .ref q9), (0, .ref h), (1, .int k), (2, .int ix), (3, .ref ou)]) hx hb d_Lw_get_17 hl (by decide) rfl (fun ls hl => ?_)
      refine lv_iconst (v := 2) hx hb d_Lw_get_19 (by decide) ?_
      exact W.iret (v := 2) hx hb hr (fun t ht hW => ⟨⟨2, (u_2, fo), rfl, hw, by have h9 := hP; rw [← ht] at h9; exact h9⟩, hS.F ht⟩) hS.2.2 d_Lw_get_20
  · have hP : va_P G.1 vwC [(h, .inr (1, [.ref m0, .ref aml, .ref amb, .ref t0, .ref atl, .ref att, .ref ate, .ref b0, .ref asb, .ref r0, .ref asr, .int u_2])), (t0, .inr (0, [.int 200, .ref t1, .ref t2, .ref t3, .int tC, .int tU])), (t1, .inl (G.2.1 0, 6, .inl tS)), (t2, .inl (G.2.1 0, 6, .inl tL)), (t3, .inl (G.2.1 2, 6, .inl tD)), (ate, .inl (G.2.1 0, 200, .inl fte)), (ou, .inl (G.2.1 3, 1, .inr (.inl fo)))] H := hP
    have hD : va_D A [(h, .inr (1, [.ref m0, .ref aml, .ref amb, .ref t0, .ref atl, .ref att, .ref ate, .ref b0, .ref asb, .ref r0, .ref asr, .int u_2])), (t0, .inr (0, [.int 200, .ref t1, .ref t2, .ref t3, .int tC, .int tU])), (t1, .inl (G.2.1 0, 6, .inl tS)), (t2, .inl (G.2.1 0, 6, .inl tL)), (t3, .inl (G.2.1 2, 6, .inl tD)), (ate, .inl (G.2.1 0, 200, .inl fte)), (ou, .inl (G.2.1 3, 1, .inr (.inl fo)))] := hD
    refine lv_i2l (v := r_1.toInt64) hx hb d_Lw_get_8 rfl ?_
    obtain ⟨h_4, hw⟩ := hw
    obtain ⟨a_5, ea_5⟩ : ∃ z, z = vp_updL fo (0 : Int32).toNatClampNeg r_1.toInt64 := ⟨_, rfl⟩
    replace hw := hw a_5 ea_5
    refine va_last hx hb hK hP hD hS 6 3 rfl rfl h_4 d_Lw_get_9 (fun H locs hP hD hS => ?_)
    rw [← ea_5] at hP hD
    have hP : va_P G.1 vwC [(h, .inr (1, [.ref m0, .ref aml, .ref amb, .ref t0, .ref atl, .ref att, .ref ate, .ref b0, .ref asb, .ref r0, .ref asr, .int u_2])), (t0, .inr (0, [.int 200, .ref t1, .ref t2, .ref t3, .int tC, .int tU])), (t1, .inl (G.2.1 0, 6, .inl tS)), (t2, .inl (G.2.1 0, 6, .inl tL)), (t3, .inl (G.2.1 2, 6, .inl tD)), (ate, .inl (G.2.1 0, 200, .inl fte)), (ou, .inl (G.2.1 3, 1, .inr (.inl a_5)))] H := hP
    have hD : va_D A [(h, .inr (1, [.ref m0, .ref aml, .ref amb, .ref t0, .ref atl, .ref att, .ref ate, .ref b0, .ref asb, .ref r0, .ref asr, .int u_2])), (t0, .inr (0, [.int 200, .ref t1, .ref t2, .ref t3, .int tC, .int tU])), (t1, .inl (G.2.1 0, 6, .inl tS)), (t2, .inl (G.2.1 0, 6, .inl tL)), (t3, .inl (G.2.1 2, 6, .inl tD)), (ate, .inl (G.2.1 0, 200, .inl fte)), (ou, .inl (G.2.1 3, 1, .inr (.inl a_5)))] := hD
    refine lv_goto (tgt := 21) hx hb d_Lw_get_10 (by decide) ?_
    refine lv_iconst (v := 0) hx hb d_Lw_get_21 (by decide) ?_
    exact W.iret (v := 0) hx hb hr (fun t ht hW => ⟨⟨0, (u_2, a_5), rfl, hw, by have h9 := hP; rw [← ht] at h9; exact h9⟩, hS.F ht⟩) hS.2.2 d_Lw_get_22
def wp_Lw_set (post : Int32 → (Int32 × (Nat → Int32)) → Prop) (trp : Int32) (tC : Int32) (tU : Int32) (tS : Nat → Int32) (tL : Nat → Int32) (tD : Nat → Int32) (fte : Nat → Int32) (k : Int32) (ix : Int32) (rf : Int32) : Prop := wp_Pm_set (fun u_2 => post 0 (u_2.1, u_2.2)) (fun E_3 u_2 => ((E_3 = E_ill → (post 1 (u_2.1, u_2.2))) ∧ (E_3 = E_uns → (post 2 (u_2.1, u_2.2))) ∧ (E_3 = E_ill ∨ E_3 = E_uns))) trp tC tU tS tL tD fte k ix rf
set_option maxHeartbeats 4000000 in
set_option maxRecDepth 100000 in
theorem t_Lw_set (l : Launch) (hst : l.stackTraces = false) (G : cxT) (h : Nat) (m0 : Nat) (aml : Nat) (amb : Nat) (t0 : Nat) (atl : Nat) (att : Nat) (ate : Nat) (b0 : Nat) (asb : Nat) (r0 : Nat) (asr : Nat) (t1 : Nat) (t2 : Nat) (t3 : Nat) (trp : Int32) (tC : Int32) (tU : Int32) (tS : Nat → Int32) (tL : Nat → Int32) (tD : Nat → Int32) (fte : Nat → Int32) (k : Int32) (ix : Int32) (rf : Int32) (sz : Nat) (post : Int32 → (Int32 × (Nat → Int32)) → Prop) (hw : wp_Lw_set post trp tC tU tS tL tD fte k ix rf) : Met l y_Lw_set [.codeWith y_Lw_set b_Lw_set 5 (some .int) [(0, 7, 10, 13), (0, 7, 14, 15)]] ({ frames := 10, cells := 1, slots := 6, locals := 200 } : Room) (cm G [.ref h, .int k, .int ix, .int rf] [(h, .inr (1, [.ref m0, .ref aml, .ref amb, .ref t0, .ref atl, .ref att, .ref ate, .ref b0, .ref asb, .ref r0, .ref asr, .int trp])), (t0, .inr (0, [.int 200, .ref t1, .ref t2, .ref t3, .int tC, .int tU])), (t1, .inl (G.2.1 0, 6, .inl tS)), (t2, .inl (G.2.1 0, 6, .inl tL)), (t3, .inl (G.2.1 2, 6, .inl tD)), (ate, .inl (G.2.1 0, 200, .inl fte))] sz) (va_Qi post (fun u t => va_P G.1 vwC [(h, .inr (1, [.ref m0, .ref aml, .ref amb, .ref t0, .ref atl, .ref att, .ref ate, .ref b0, .ref asb, .ref r0, .ref asr, .int u.1])), (t0, .inr (0, [.int 200, .ref t1, .ref t2, .ref t3, .int tC, .int tU])), (t1, .inl (G.2.1 0, 6, .inl tS)), (t2, .inl (G.2.1 0, 6, .inl tL)), (t3, .inl (G.2.1 2, 6, .inl tD)), (ate, .inl (G.2.1 0, 200, .inl u.2))] t.heap) (va_A [(h, .inr (1, [.ref m0, .ref aml, .ref amb, .ref t0, .ref atl, .ref att, .ref ate, .ref b0, .ref asb, .ref r0, .ref asr, .int trp])), (t0, .inr (0, [.int 200, .ref t1, .ref t2, .ref t3, .int tC, .int tU])), (t1, .inl (G.2.1 0, 6, .inl tS)), (t2, .inl (G.2.1 0, 6, .inl tL)), (t3, .inl (G.2.1 2, 6, .inl tD)), (ate, .inl (G.2.1 0, 200, .inl fte))] sz)) 1 6 (va_A [(h, .inr (1, [.ref m0, .ref aml, .ref amb, .ref t0, .ref atl, .ref att, .ref ate, .ref b0, .ref asb, .ref r0, .ref asr, .int trp])), (t0, .inr (0, [.int 200, .ref t1, .ref t2, .ref t3, .int tC, .int tU])), (t1, .inl (G.2.1 0, 6, .inl tS)), (t2, .inl (G.2.1 0, 6, .inl tL)), (t3, .inl (G.2.1 2, 6, .inl tD)), (ate, .inl (G.2.1 0, 200, .inl fte))] sz) := by
  refine va_MetW (cc := b_Lw_set) (maxL := 5) (ret := (some .int)) (by decide +kernel) rfl ?_
  intro p e s m args below meth c s₁ B hml hv
  obtain ⟨rfl, hsz, hcx, hP, hD0⟩ := hv
  have hx := B.exec
  have hb := B.bytes
  have hr := B.returns
  have hlocks := B.notSynchronized
  have hown : s.vm.findClass R_Lw = some m.cls := findClass_of_methodNamed B.named
  have htb := ct_table (ws := [.codeWith y_Lw_set b_Lw_set 5 (some .int) [(0, 7, 10, 13), (0, 7, 14, 15)]]) (rm := ({ frames := 10, cells := 1, slots := 6, locals := 200 } : Room)) B rfl
  subst hsz
  have hD := hD0.self (sz := s.heap.size)
  generalize hAe : va_A [(h, .inr (1, [.ref m0, .ref aml, .ref amb, .ref t0, .ref atl, .ref att, .ref ate, .ref b0, .ref asb, .ref r0, .ref asr, .int trp])), (t0, .inr (0, [.int 200, .ref t1, .ref t2, .ref t3, .int tC, .int tU])), (t1, .inl (G.2.1 0, 6, .inl tS)), (t2, .inl (G.2.1 0, 6, .inl tL)), (t3, .inl (G.2.1 2, 6, .inl tD)), (ate, .inl (G.2.1 0, 200, .inl fte))] s.heap.size = A at hD hcx ⊢
  have hA : ∀ q : Nat, s.heap.size ≤ q → A q := fun q h => by rw [← hAe]; exact Or.inr h
  have hS : va_S A s.heap s.heap [] := va_S.rf
  have hts := hcx.now.1 [.ref h, .int k, .int ix, .int rf].toArray
  have hK := hcx.now.2.1
  have hl := lv_entry ([.ref h, .int k, .int ix, .int rf]) (n := 5) (Nat.le_of_ble_eq_true rfl)
  rw [lg_entry_eq]
  generalize (lg_sl ([.ref h, .int k, .int ix, .int rf]) ++ List.replicate (5 - (lg_sl ([.ref h, .int k, .int ix, .int rf])).length) Slot.unset).toArray = ls at hl ⊢
  have hl : lv_has ls 5 [(0, .ref h), (1, .int k), (2, .int ix), (3, .int rf)] := hl
  unfold wp_Lw_set at hw
  refine lv_aload_n hx hb d_Lw_set_0 rfl (lv_at hl 0 rfl) ?_
  refine lv_iload_n hx hb d_Lw_set_1 rfl (lv_at hl 1 rfl) ?_
  refine lv_iload_n hx hb d_Lw_set_2 rfl (lv_at hl 2 rfl) ?_
  refine lv_iload_n hx hb d_Lw_set_3 rfl (lv_at hl 3 rfl) ?_
  have hPc := hP.sub (ws' := [(h, .inr (1, [.ref m0, .ref aml, .ref amb, .ref t0, .ref atl, .ref att, .ref ate, .ref b0, .ref asb, .ref r0, .ref asr, .int trp])), (t0, .inr (0, [.int 200, .ref t1, .ref t2, .ref t3, .int tC, .int tU])), (t1, .inl (G.2.1 0, 6, .inl tS)), (t2, .inl (G.2.1 0, 6, .inl tL)), (t3, .inl (G.2.1 2, 6, .inl tD)), (ate, .inl (G.2.1 0, 200, .inl fte))]) [0, 1, 2, 3, 4, 5] rfl
  have hDc := hD.sub (ws' := [(h, .inr (1, [.ref m0, .ref aml, .ref amb, .ref t0, .ref atl, .ref att, .ref ate, .ref b0, .ref asb, .ref r0, .ref asr, .int trp])), (t0, .inr (0, [.int 200, .ref t1, .ref t2, .ref t3, .int tC, .int tU])), (t1, .inl (G.2.1 0, 6, .inl tS)), (t2, .inl (G.2.1 0, 6, .inl tL)), (t3, .inl (G.2.1 2, 6, .inl tD)), (ate, .inl (G.2.1 0, 200, .inl fte))]) [0, 1, 2, 3, 4, 5] (by decide) rfl
  have hFc := va_free (wc := [(h, .inr (1, [.ref m0, .ref aml, .ref amb, .ref t0, .ref atl, .ref att, .ref ate, .ref b0, .ref asb, .ref r0, .ref asr, .int trp])), (t0, .inr (0, [.int 200, .ref t1, .ref t2, .ref t3, .int tC, .int tU])), (t1, .inl (G.2.1 0, 6, .inl tS)), (t2, .inl (G.2.1 0, 6, .inl tL)), (t3, .inl (G.2.1 2, 6, .inl tD)), (ate, .inl (G.2.1 0, 200, .inl fte))]) hD hS hA [0, 1, 2, 3, 4, 5] rfl
  refine tx_v (tr_runV (As := [.int k, .int ix, .int rf]) (rest := []) ⟨hx, hb, hml, hown, hts⟩ (t_Pm_set l hst G h m0 aml amb t0 atl att ate b0 asb r0 asr t1 t2 t3 trp tC tU tS tL tD fte k ix rf _ _ _ hw) (cwV 3 hts (gi_V ml_Lw_40 im_Pm_set se_Pm_set ini_Pm co_Pm_set) rfl rfl rfl (by decide +kernel) ⟨Nat.le_of_ble_eq_true rfl, Nat.le_of_ble_eq_true rfl⟩) ⟨cm_blind, va_recv hK hPc (ci := 1) (q0 := 0) rfl rfl, cm_pre hcx hS hPc hDc hFc⟩ rfl rfl hl.1 rfl (lv_room (Nat.le_of_ble_eq_true rfl)) d_Lw_set_4 ⟨Nat.le_of_ble_eq_true rfl, Nat.le_of_ble_eq_true rfl⟩) hS hP hD hA [0, 1, 2, 3, 4, 5] rfl (fun _ => rfl) (fun _ => rfl) (fun E_3 u_2 hw q9 ce9 H locs hP hD hS h91 h92 h93 => ?_) (fun u_2 H locs hw hP hD hS => ?_)
  · have hE : E_3 = E_ill ∨ E_3 = E_uns := hw.2.2
    rcases hE with hE | hE
    · subst hE
      replace hw := hw.1 rfl
      have hP : va_P G.1 vwC [(h, .inr (1, [.ref m0, .ref aml, .ref amb, .ref t0, .ref atl, .ref att, .ref ate, .ref b0, .ref asb, .ref r0, .ref asr, .int u_2.1])), (t0, .inr (0, [.int 200, .ref t1, .ref t2, .ref t3, .int tC, .int tU])), (t1, .inl (G.2.1 0, 6, .inl tS)), (t2, .inl (G.2.1 0, 6, .inl tL)), (t3, .inl (G.2.1 2, 6, .inl tD)), (ate, .inl (G.2.1 0, 200, .inl u_2.2))] H := hP
      have hD : va_D A [(h, .inr (1, [.ref m0, .ref aml, .ref amb, .ref t0, .ref atl, .ref att, .ref ate, .ref b0, .ref asb, .ref r0, .ref asr, .int u_2.1])), (t0, .inr (0, [.int 200, .ref t1, .ref t2, .ref t3, .int tC, .int tU])), (t1, .inl (G.2.1 0, 6, .inl tS)), (t2, .inl (G.2.1 0, 6, .inl tL)), (t3, .inl (G.2.1 2, 6, .inl tD)), (ate, .inl (G.2.1 0, 200, .inl u_2.2))] := hD
      refine ct_1h hown htb (by decide) (by decide) (by decide) (hts _ cl_Lw_13) (hcx.now.2.2.1 _ _ hc_ill) h91 h92 h93 ?_
      refine lv_astore (lv' := [(4, .ref q9), (0, .ref h), (1, .int k), (2, .int ix), (3, .int rf)]) hx hb d_Lw_set_10 hl (by decide) rfl (fun ls hl => ?_)
      refine lv_iconst (v := 1) hx hb d_Lw_set_12 (by decide) ?_
      exact W.iret (v := 1) hx hb hr (fun t ht hW => ⟨⟨1, (u_2.1, u_2.2), rfl, hw, by have h9 := hP; rw [← ht] at h9; exact h9⟩, hS.F ht⟩) hS.2.2 d_Lw_set_13
    · subst hE
      replace hw := hw.2.1 rfl
      have hP : va_P G.1 vwC [(h, .inr (1, [.ref m0, .ref aml, .ref amb, .ref t0, .ref atl, .ref att, .ref ate, .ref b0, .ref asb, .ref r0, .ref asr, .int u_2.1])), (t0, .inr (0, [.int 200, .ref t1, .ref t2, .ref t3, .int tC, .int tU])), (t1, .inl (G.2.1 0, 6, .inl tS)), (t2, .inl (G.2.1 0, 6, .inl tL)), (t3, .inl (G.2.1 2, 6, .inl tD)), (ate, .inl (G.2.1 0, 200, .inl u_2.2))] H := hP
      have hD : va_D A [(h, .inr (1, [.ref m0, .ref aml, .ref amb, .ref t0, .ref atl, .ref att, .ref ate, .ref b0, .ref asb, .ref r0, .ref asr, .int u_2.1])), (t0, .inr (0, [.int 200, .ref t1, .ref t2, .ref t3, .int tC, .int tU])), (t1, .inl (G.2.1 0, 6, .inl tS)), (t2, .inl (G.2.1 0, 6, .inl tL)), (t3, .inl (G.2.1 2, 6, .inl tD)), (ate, .inl (G.2.1 0, 200, .inl u_2.2))] := hD
      refine ct_2h hown htb (by decide) (by decide) (by decide) (by decide) (by decide) (by decide) (hts _ cl_Lw_13) hcx.now.2.2.2.2.2.2 (hts _ cl_Lw_15) (hcx.now.2.2.1 _ _ hc_uns) h91 h92 h93 ?_
      refine lv_astore (lv' := [(4, .ref q9), (0, .ref h), (1, .int k), (2, .int ix), (3, .int rf)]) hx hb d_Lw_set_14 hl (by decide) rfl (fun ls hl => ?_)
      refine lv_iconst (v := 2) hx hb d_Lw_set_16 (by decide) ?_
      exact W.iret (v := 2) hx hb hr (fun t ht hW => ⟨⟨2, (u_2.1, u_2.2), rfl, hw, by have h9 := hP; rw [← ht] at h9; exact h9⟩, hS.F ht⟩) hS.2.2 d_Lw_set_17
  · have hP : va_P G.1 vwC [(h, .inr (1, [.ref m0, .ref aml, .ref amb, .ref t0, .ref atl, .ref att, .ref ate, .ref b0, .ref asb, .ref r0, .ref asr, .int u_2.1])), (t0, .inr (0, [.int 200, .ref t1, .ref t2, .ref t3, .int tC, .int tU])), (t1, .inl (G.2.1 0, 6, .inl tS)), (t2, .inl (G.2.1 0, 6, .inl tL)), (t3, .inl (G.2.1 2, 6, .inl tD)), (ate, .inl (G.2.1 0, 200, .inl u_2.2))] H := hP
    have hD : va_D A [(h, .inr (1, [.ref m0, .ref aml, .ref amb, .ref t0, .ref atl, .ref att, .ref ate, .ref b0, .ref asb, .ref r0, .ref asr, .int u_2.1])), (t0, .inr (0, [.int 200, .ref t1, .ref t2, .ref t3, .int tC, .int tU])), (t1, .inl (G.2.1 0, 6, .inl tS)), (t2, .inl (G.2.1 0, 6, .inl tL)), (t3, .inl (G.2.1 2, 6, .inl tD)), (ate, .inl (G.2.1 0, 200, .inl u_2.2))] := hD
    refine lv_goto (tgt := 18) hx hb d_Lw_set_7 (by decide) ?_
    refine lv_iconst (v := 0) hx hb d_Lw_set_18 (by decide) ?_
    exact W.iret (v := 0) hx hb hr (fun t ht hW => ⟨⟨0, (u_2.1, u_2.2), rfl, hw, by have h9 := hP; rw [← ht] at h9; exact h9⟩, hS.F ht⟩) hS.2.2 d_Lw_set_19
def wp_Lw_fillTable (post : Int32 → (Int32 × (Nat → Int32)) → Prop) (trp : Int32) (tC : Int32) (tU : Int32) (tS : Nat → Int32) (tL : Nat → Int32) (tD : Nat → Int32) (fte : Nat → Int32) (k : Int32) (to : Int32) (rf : Int32) (cn : Int32) : Prop := wp_Pm_fillTable (fun u_2 => post 0 (u_2.1, u_2.2)) (fun E_3 u_2 => ((E_3 = E_ill → (post 1 (u_2.1, u_2.2))) ∧ (E_3 = E_uns → (post 2 (u_2.1, u_2.2))) ∧ (E_3 = E_ill ∨ E_3 = E_uns))) trp tC tU tS tL tD fte k to rf cn
set_option maxHeartbeats 4000000 in
set_option maxRecDepth 100000 in
theorem t_Lw_fillTable (l : Launch) (hst : l.stackTraces = false) (G : cxT) (h : Nat) (m0 : Nat) (aml : Nat) (amb : Nat) (t0 : Nat) (atl : Nat) (att : Nat) (ate : Nat) (b0 : Nat) (asb : Nat) (r0 : Nat) (asr : Nat) (t1 : Nat) (t2 : Nat) (t3 : Nat) (trp : Int32) (tC : Int32) (tU : Int32) (tS : Nat → Int32) (tL : Nat → Int32) (tD : Nat → Int32) (fte : Nat → Int32) (k : Int32) (to : Int32) (rf : Int32) (cn : Int32) (sz : Nat) (post : Int32 → (Int32 × (Nat → Int32)) → Prop) (hw : wp_Lw_fillTable post trp tC tU tS tL tD fte k to rf cn) : Met l y_Lw_fillTable [.codeWith y_Lw_fillTable b_Lw_fillTable 6 (some .int) [(0, 9, 12, 13), (0, 9, 16, 15)]] ({ frames := 10, cells := 1, slots := 6, locals := 200 } : Room) (cm G [.ref h, .int k, .int to, .int rf, .int cn] [(h, .inr (1, [.ref m0, .ref aml, .ref amb, .ref t0, .ref atl, .ref att, .ref ate, .ref b0, .ref asb, .ref r0, .ref asr, .int trp])), (t0, .inr (0, [.int 200, .ref t1, .ref t2, .ref t3, .int tC, .int tU])), (t1, .inl (G.2.1 0, 6, .inl tS)), (t2, .inl (G.2.1 0, 6, .inl tL)), (t3, .inl (G.2.1 2, 6, .inl tD)), (ate, .inl (G.2.1 0, 200, .inl fte))] sz) (va_Qi post (fun u t => va_P G.1 vwC [(h, .inr (1, [.ref m0, .ref aml, .ref amb, .ref t0, .ref atl, .ref att, .ref ate, .ref b0, .ref asb, .ref r0, .ref asr, .int u.1])), (t0, .inr (0, [.int 200, .ref t1, .ref t2, .ref t3, .int tC, .int tU])), (t1, .inl (G.2.1 0, 6, .inl tS)), (t2, .inl (G.2.1 0, 6, .inl tL)), (t3, .inl (G.2.1 2, 6, .inl tD)), (ate, .inl (G.2.1 0, 200, .inl u.2))] t.heap) (va_A [(h, .inr (1, [.ref m0, .ref aml, .ref amb, .ref t0, .ref atl, .ref att, .ref ate, .ref b0, .ref asb, .ref r0, .ref asr, .int trp])), (t0, .inr (0, [.int 200, .ref t1, .ref t2, .ref t3, .int tC, .int tU])), (t1, .inl (G.2.1 0, 6, .inl tS)), (t2, .inl (G.2.1 0, 6, .inl tL)), (t3, .inl (G.2.1 2, 6, .inl tD)), (ate, .inl (G.2.1 0, 200, .inl fte))] sz)) 1 6 (va_A [(h, .inr (1, [.ref m0, .ref aml, .ref amb, .ref t0, .ref atl, .ref att, .ref ate, .ref b0, .ref asb, .ref r0, .ref asr, .int trp])), (t0, .inr (0, [.int 200, .ref t1, .ref t2, .ref t3, .int tC, .int tU])), (t1, .inl (G.2.1 0, 6, .inl tS)), (t2, .inl (G.2.1 0, 6, .inl tL)), (t3, .inl (G.2.1 2, 6, .inl tD)), (ate, .inl (G.2.1 0, 200, .inl fte))] sz) := by
  refine va_MetW (cc := b_Lw_fillTable) (maxL := 6) (ret := (some .int)) (by decide +kernel) rfl ?_
  intro p e s m args below meth c s₁ B hml hv
  obtain ⟨rfl, hsz, hcx, hP, hD0⟩ := hv
  have hx := B.exec
  have hb := B.bytes
  have hr := B.returns
  have hlocks := B.notSynchronized
  have hown : s.vm.findClass R_Lw = some m.cls := findClass_of_methodNamed B.named
  have htb := ct_table (ws := [.codeWith y_Lw_fillTable b_Lw_fillTable 6 (some .int) [(0, 9, 12, 13), (0, 9, 16, 15)]]) (rm := ({ frames := 10, cells := 1, slots := 6, locals := 200 } : Room)) B rfl
  subst hsz
  have hD := hD0.self (sz := s.heap.size)
  generalize hAe : va_A [(h, .inr (1, [.ref m0, .ref aml, .ref amb, .ref t0, .ref atl, .ref att, .ref ate, .ref b0, .ref asb, .ref r0, .ref asr, .int trp])), (t0, .inr (0, [.int 200, .ref t1, .ref t2, .ref t3, .int tC, .int tU])), (t1, .inl (G.2.1 0, 6, .inl tS)), (t2, .inl (G.2.1 0, 6, .inl tL)), (t3, .inl (G.2.1 2, 6, .inl tD)), (ate, .inl (G.2.1 0, 200, .inl fte))] s.heap.size = A at hD hcx ⊢
  have hA : ∀ q : Nat, s.heap.size ≤ q → A q := fun q h => by rw [← hAe]; exact Or.inr h
  have hS : va_S A s.heap s.heap [] := va_S.rf
  have hts := hcx.now.1 [.ref h, .int k, .int to, .int rf, .int cn].toArray
  have hK := hcx.now.2.1
  have hl := lv_entry ([.ref h, .int k, .int to, .int rf, .int cn]) (n := 6) (Nat.le_of_ble_eq_true rfl)
  rw [lg_entry_eq]
  generalize (lg_sl ([.ref h, .int k, .int to, .int rf, .int cn]) ++ List.replicate (6 - (lg_sl ([.ref h, .int k, .int to, .int rf, .int cn])).length) Slot.unset).toArray = ls at hl ⊢
  have hl : lv_has ls 6 [(0, .ref h), (1, .int k), (2, .int to), (3, .int rf), (4, .int cn)] := hl
  unfold wp_Lw_fillTable at hw
  refine lv_aload_n hx hb d_Lw_fillTable_0 rfl (lv_at hl 0 rfl) ?_
  refine lv_iload_n hx hb d_Lw_fillTable_1 rfl (lv_at hl 1 rfl) ?_
  refine lv_iload_n hx hb d_Lw_fillTable_2 rfl (lv_at hl 2 rfl) ?_
  refine lv_iload_n hx hb d_Lw_fillTable_3 rfl (lv_at hl 3 rfl) ?_
  refine lv_iload hx hb d_Lw_fillTable_4 (lv_at hl 4 rfl) ?_
  have hPc := hP.sub (ws' := [(h, .inr (1, [.ref m0, .ref aml, .ref amb, .ref t0, .ref atl, .ref att, .ref ate, .ref b0, .ref asb, .ref r0, .ref asr, .int trp])), (t0, .inr (0, [.int 200, .ref t1, .ref t2, .ref t3, .int tC, .int tU])), (t1, .inl (G.2.1 0, 6, .inl tS)), (t2, .inl (G.2.1 0, 6, .inl tL)), (t3, .inl (G.2.1 2, 6, .inl tD)), (ate, .inl (G.2.1 0, 200, .inl fte))]) [0, 1, 2, 3, 4, 5] rfl
  have hDc := hD.sub (ws' := [(h, .inr (1, [.ref m0, .ref aml, .ref amb, .ref t0, .ref atl, .ref att, .ref ate, .ref b0, .ref asb, .ref r0, .ref asr, .int trp])), (t0, .inr (0, [.int 200, .ref t1, .ref t2, .ref t3, .int tC, .int tU])), (t1, .inl (G.2.1 0, 6, .inl tS)), (t2, .inl (G.2.1 0, 6, .inl tL)), (t3, .inl (G.2.1 2, 6, .inl tD)), (ate, .inl (G.2.1 0, 200, .inl fte))]) [0, 1, 2, 3, 4, 5] (by decide) rfl
  have hFc := va_free (wc := [(h, .inr (1, [.ref m0, .ref aml, .ref amb, .ref t0, .ref atl, .ref att, .ref ate, .ref b0, .ref asb, .ref r0, .ref asr, .int trp])), (t0, .inr (0, [.int 200, .ref t1, .ref t2, .ref t3, .int tC, .int tU])), (t1, .inl (G.2.1 0, 6, .inl tS)), (t2, .inl (G.2.1 0, 6, .inl tL)), (t3, .inl (G.2.1 2, 6, .inl tD)), (ate, .inl (G.2.1 0, 200, .inl fte))]) hD hS hA [0, 1, 2, 3, 4, 5] rfl
  refine tx_v (tr_runV (As := [.int k, .int to, .int rf, .int cn]) (rest := []) ⟨hx, hb, hml, hown, hts⟩ (t_Pm_fillTable l hst G h m0 aml amb t0 atl att ate b0 asb r0 asr t1 t2 t3 trp tC tU tS tL tD fte k to rf cn _ _ _ hw) (cwV 4 hts (gi_V ml_Lw_44 im_Pm_fillTable se_Pm_fillTable ini_Pm co_Pm_fillTable) rfl rfl rfl (by decide +kernel) ⟨Nat.le_of_ble_eq_true rfl, Nat.le_of_ble_eq_true rfl⟩) ⟨cm_blind, va_recv hK hPc (ci := 1) (q0 := 0) rfl rfl, cm_pre hcx hS hPc hDc hFc⟩ rfl rfl hl.1 rfl (lv_room (Nat.le_of_ble_eq_true rfl)) d_Lw_fillTable_6 ⟨Nat.le_of_ble_eq_true rfl, Nat.le_of_ble_eq_true rfl⟩) hS hP hD hA [0, 1, 2, 3, 4, 5] rfl (fun _ => rfl) (fun _ => rfl) (fun E_3 u_2 hw q9 ce9 H locs hP hD hS h91 h92 h93 => ?_) (fun u_2 H locs hw hP hD hS => ?_)
  · have hE : E_3 = E_ill ∨ E_3 = E_uns := hw.2.2
    rcases hE with hE | hE
    · subst hE
      replace hw := hw.1 rfl
      have hP : va_P G.1 vwC [(h, .inr (1, [.ref m0, .ref aml, .ref amb, .ref t0, .ref atl, .ref att, .ref ate, .ref b0, .ref asb, .ref r0, .ref asr, .int u_2.1])), (t0, .inr (0, [.int 200, .ref t1, .ref t2, .ref t3, .int tC, .int tU])), (t1, .inl (G.2.1 0, 6, .inl tS)), (t2, .inl (G.2.1 0, 6, .inl tL)), (t3, .inl (G.2.1 2, 6, .inl tD)), (ate, .inl (G.2.1 0, 200, .inl u_2.2))] H := hP
      have hD : va_D A [(h, .inr (1, [.ref m0, .ref aml, .ref amb, .ref t0, .ref atl, .ref att, .ref ate, .ref b0, .ref asb, .ref r0, .ref asr, .int u_2.1])), (t0, .inr (0, [.int 200, .ref t1, .ref t2, .ref t3, .int tC, .int tU])), (t1, .inl (G.2.1 0, 6, .inl tS)), (t2, .inl (G.2.1 0, 6, .inl tL)), (t3, .inl (G.2.1 2, 6, .inl tD)), (ate, .inl (G.2.1 0, 200, .inl u_2.2))] := hD
      refine ct_1h hown htb (by decide) (by decide) (by decide) (hts _ cl_Lw_13) (hcx.now.2.2.1 _ _ hc_ill) h91 h92 h93 ?_
      refine lv_astore (lv' := [(5, .ref q9), (0, .ref h), (1, .int k), (2, .int to), (3, .int rf), (4, .int cn)]) hx hb d_Lw_fillTable_12 hl (by decide) rfl (fun ls hl => ?_)
      refine lv_iconst (v := 1) hx hb d_Lw_fillTable_14 (by decide) ?_
      exact W.iret (v := 1) hx hb hr (fun t ht hW => ⟨⟨1, (u_2.1, u_2.2), rfl, hw, by have h9 := hP; rw [← ht] at h9; exact h9⟩, hS.F ht⟩) hS.2.2 d_Lw_fillTable_15
    · subst hE
      replace hw := hw.2.1 rfl
      have hP : va_P G.1 vwC [(h, .inr (1, [.ref m0, .ref aml, .ref amb, .ref t0, .ref atl, .ref att, .ref ate, .ref b0, .ref asb, .ref r0, .ref asr, .int u_2.1])), (t0, .inr (0, [.int 200, .ref t1, .ref t2, .ref t3, .int tC, .int tU])), (t1, .inl (G.2.1 0, 6, .inl tS)), (t2, .inl (G.2.1 0, 6, .inl tL)), (t3, .inl (G.2.1 2, 6, .inl tD)), (ate, .inl (G.2.1 0, 200, .inl u_2.2))] H := hP
      have hD : va_D A [(h, .inr (1, [.ref m0, .ref aml, .ref amb, .ref t0, .ref atl, .ref att, .ref ate, .ref b0, .ref asb, .ref r0, .ref asr, .int u_2.1])), (t0, .inr (0, [.int 200, .ref t1, .ref t2, .ref t3, .int tC, .int tU])), (t1, .inl (G.2.1 0, 6, .inl tS)), (t2, .inl (G.2.1 0, 6, .inl tL)), (t3, .inl (G.2.1 2, 6, .inl tD)), (ate, .inl (G.2.1 0, 200, .inl u_2.2))] := hD
      refine ct_2h hown htb (by decide) (by decide) (by decide) (by decide) (by decide) (by decide) (hts _ cl_Lw_13) hcx.now.2.2.2.2.2.2 (hts _ cl_Lw_15) (hcx.now.2.2.1 _ _ hc_uns) h91 h92 h93 ?_
      refine lv_astore (lv' := [(5, .ref q9), (0, .ref h), (1, .int k), (2, .int to), (3, .int rf), (4, .int cn)]) hx hb d_Lw_fillTable_16 hl (by decide) rfl (fun ls hl => ?_)
      refine lv_iconst (v := 2) hx hb d_Lw_fillTable_18 (by decide) ?_
      exact W.iret (v := 2) hx hb hr (fun t ht hW => ⟨⟨2, (u_2.1, u_2.2), rfl, hw, by have h9 := hP; rw [← ht] at h9; exact h9⟩, hS.F ht⟩) hS.2.2 d_Lw_fillTable_19
  · have hP : va_P G.1 vwC [(h, .inr (1, [.ref m0, .ref aml, .ref amb, .ref t0, .ref atl, .ref att, .ref ate, .ref b0, .ref asb, .ref r0, .ref asr, .int u_2.1])), (t0, .inr (0, [.int 200, .ref t1, .ref t2, .ref t3, .int tC, .int tU])), (t1, .inl (G.2.1 0, 6, .inl tS)), (t2, .inl (G.2.1 0, 6, .inl tL)), (t3, .inl (G.2.1 2, 6, .inl tD)), (ate, .inl (G.2.1 0, 200, .inl u_2.2))] H := hP
    have hD : va_D A [(h, .inr (1, [.ref m0, .ref aml, .ref amb, .ref t0, .ref atl, .ref att, .ref ate, .ref b0, .ref asb, .ref r0, .ref asr, .int u_2.1])), (t0, .inr (0, [.int 200, .ref t1, .ref t2, .ref t3, .int tC, .int tU])), (t1, .inl (G.2.1 0, 6, .inl tS)), (t2, .inl (G.2.1 0, 6, .inl tL)), (t3, .inl (G.2.1 2, 6, .inl tD)), (ate, .inl (G.2.1 0, 200, .inl u_2.2))] := hD
    refine lv_goto (tgt := 20) hx hb d_Lw_fillTable_9 (by decide) ?_
    refine lv_iconst (v := 0) hx hb d_Lw_fillTable_20 (by decide) ?_
    exact W.iret (v := 0) hx hb hr (fun t ht hW => ⟨⟨0, (u_2.1, u_2.2), rfl, hw, by have h9 := hP; rw [← ht] at h9; exact h9⟩, hS.F ht⟩) hS.2.2 d_Lw_fillTable_21
def wp_Lw_copyTable (post : Int32 → (Int32 × (Nat → Int32)) → Prop) (trp : Int32) (tC : Int32) (tU : Int32) (tS : Nat → Int32) (tL : Nat → Int32) (tD : Nat → Int32) (ftt : Nat → Int32) (fte : Nat → Int32) (k : Int32) (k2 : Int32) (to : Int32) (fr : Int32) (cn : Int32) : Prop := wp_Pm_copyTable (fun u_2 => post 0 (u_2.1, u_2.2)) (fun E_3 u_2 => ((E_3 = E_ill → (post 1 (u_2.1, u_2.2))) ∧ (E_3 = E_uns → (post 2 (u_2.1, u_2.2))) ∧ (E_3 = E_ill ∨ E_3 = E_uns))) trp tC tU tS tL tD ftt fte k k2 to fr cn
set_option maxHeartbeats 4000000 in
set_option maxRecDepth 100000 in
theorem t_Lw_copyTable (l : Launch) (hst : l.stackTraces = false) (G : cxT) (h : Nat) (m0 : Nat) (aml : Nat) (amb : Nat) (t0 : Nat) (atl : Nat) (att : Nat) (ate : Nat) (b0 : Nat) (asb : Nat) (r0 : Nat) (asr : Nat) (t1 : Nat) (t2 : Nat) (t3 : Nat) (trp : Int32) (tC : Int32) (tU : Int32) (tS : Nat → Int32) (tL : Nat → Int32) (tD : Nat → Int32) (ftt : Nat → Int32) (fte : Nat → Int32) (k : Int32) (k2 : Int32) (to : Int32) (fr : Int32) (cn : Int32) (sz : Nat) (post : Int32 → (Int32 × (Nat → Int32)) → Prop) (hw : wp_Lw_copyTable post trp tC tU tS tL tD ftt fte k k2 to fr cn) : Met l y_Lw_copyTable [.codeWith y_Lw_copyTable b_Lw_copyTable 7 (some .int) [(0, 11, 14, 13), (0, 11, 18, 15)]] ({ frames := 10, cells := 2, slots := 12, locals := 200 } : Room) (cm G [.ref h, .int k, .int k2, .int to, .int fr, .int cn] [(h, .inr (1, [.ref m0, .ref aml, .ref amb, .ref t0, .ref atl, .ref att, .ref ate, .ref b0, .ref asb, .ref r0, .ref asr, .int trp])), (t0, .inr (0, [.int 200, .ref t1, .ref t2, .ref t3, .int tC, .int tU])), (t1, .inl (G.2.1 0, 6, .inl tS)), (t2, .inl (G.2.1 0, 6, .inl tL)), (t3, .inl (G.2.1 2, 6, .inl tD)), (att, .inl (G.2.1 0, 6, .inl ftt)), (ate, .inl (G.2.1 0, 200, .inl fte))] sz) (va_Qi post (fun u t => va_P G.1 vwC [(h, .inr (1, [.ref m0, .ref aml, .ref amb, .ref t0, .ref atl, .ref att, .ref ate, .ref b0, .ref asb, .ref r0, .ref asr, .int u.1])), (t0, .inr (0, [.int 200, .ref t1, .ref t2, .ref t3, .int tC, .int tU])), (t1, .inl (G.2.1 0, 6, .inl tS)), (t2, .inl (G.2.1 0, 6, .inl tL)), (t3, .inl (G.2.1 2, 6, .inl tD)), (att, .inl (G.2.1 0, 6, .inl ftt)), (ate, .inl (G.2.1 0, 200, .inl u.2))] t.heap) (va_A [(h, .inr (1, [.ref m0, .ref aml, .ref amb, .ref t0, .ref atl, .ref att, .ref ate, .ref b0, .ref asb, .ref r0, .ref asr, .int trp])), (t0, .inr (0, [.int 200, .ref t1, .ref t2, .ref t3, .int tC, .int tU])), (t1, .inl (G.2.1 0, 6, .inl tS)), (t2, .inl (G.2.1 0, 6, .inl tL)), (t3, .inl (G.2.1 2, 6, .inl tD)), (att, .inl (G.2.1 0, 6, .inl ftt)), (ate, .inl (G.2.1 0, 200, .inl fte))] sz)) 2 12 (va_A [(h, .inr (1, [.ref m0, .ref aml, .ref amb, .ref t0, .ref atl, .ref att, .ref ate, .ref b0, .ref asb, .ref r0, .ref asr, .int trp])), (t0, .inr (0, [.int 200, .ref t1, .ref t2, .ref t3, .int tC, .int tU])), (t1, .inl (G.2.1 0, 6, .inl tS)), (t2, .inl (G.2.1 0, 6, .inl tL)), (t3, .inl (G.2.1 2, 6, .inl tD)), (att, .inl (G.2.1 0, 6, .inl ftt)), (ate, .inl (G.2.1 0, 200, .inl fte))] sz) := by
  refine va_MetW (cc := b_Lw_copyTable) (maxL := 7) (ret := (some .int)) (by decide +kernel) rfl ?_
  intro p e s m args below meth c s₁ B hml hv
  obtain ⟨rfl, hsz, hcx, hP, hD0⟩ := hv
  have hx := B.exec
  have hb := B.bytes
  have hr := B.returns
  have hlocks := B.notSynchronized
  have hown : s.vm.findClass R_Lw = some m.cls := findClass_of_methodNamed B.named
  have htb := ct_table (ws := [.codeWith y_Lw_copyTable b_Lw_copyTable 7 (some .int) [(0, 11, 14, 13), (0, 11, 18, 15)]]) (rm := ({ frames := 10, cells := 2, slots := 12, locals := 200 } : Room)) B rfl
  subst hsz
  have hD := hD0.self (sz := s.heap.size)
  generalize hAe : va_A [(h, .inr (1, [.ref m0, .ref aml, .ref amb, .ref t0, .ref atl, .ref att, .ref ate, .ref b0, .ref asb, .ref r0, .ref asr, .int trp])), (t0, .inr (0, [.int 200, .ref t1, .ref t2, .ref t3, .int tC, .int tU])), (t1, .inl (G.2.1 0, 6, .inl tS)), (t2, .inl (G.2.1 0, 6, .inl tL)), (t3, .inl (G.2.1 2, 6, .inl tD)), (att, .inl (G.2.1 0, 6, .inl ftt)), (ate, .inl (G.2.1 0, 200, .inl fte))] s.heap.size = A at hD hcx ⊢
  have hA : ∀ q : Nat, s.heap.size ≤ q → A q := fun q h => by rw [← hAe]; exact Or.inr h
  have hS : va_S A s.heap s.heap [] := va_S.rf
  have hts := hcx.now.1 [.ref h, .int k, .int k2, .int to, .int fr, .int cn].toArray
  have hK := hcx.now.2.1
  have hl := lv_entry ([.ref h, .int k, .int k2, .int to, .int fr, .int cn]) (n := 7) (Nat.le_of_ble_eq_true rfl)
  rw [lg_entry_eq]
  generalize (lg_sl ([.ref h, .int k, .int k2, .int to, .int fr, .int cn]) ++ List.replicate (7 - (lg_sl ([.ref h, .int k, .int k2, .int to, .int fr, .int cn])).length) Slot.unset).toArray = ls at hl ⊢
  have hl : lv_has ls 7 [(0, .ref h), (1, .int k), (2, .int k2), (3, .int to), (4, .int fr), (5, .int cn)] := hl
  unfold wp_Lw_copyTable at hw
  refine lv_aload_n hx hb d_Lw_copyTable_0 rfl (lv_at hl 0 rfl) ?_
  refine lv_iload_n hx hb d_Lw_copyTable_1 rfl (lv_at hl 1 rfl) ?_
  refine lv_iload_n hx hb d_Lw_copyTable_2 rfl (lv_at hl 2 rfl) ?_
  refine lv_iload_n hx hb d_Lw_copyTable_3 rfl (lv_at hl 3 rfl) ?_
  refine lv_iload hx hb d_Lw_copyTable_4 (lv_at hl 4 rfl) ?_
  refine lv_iload hx hb d_Lw_copyTable_6 (lv_at hl 5 rfl) ?_
  have hPc := hP.sub (ws' := [(h, .inr (1, [.ref m0, .ref aml, .ref amb, .ref t0, .ref atl, .ref att, .ref ate, .ref b0, .ref asb, .ref r0, .ref asr, .int trp])), (t0, .inr (0, [.int 200, .ref t1, .ref t2, .ref t3, .int tC, .int tU])), (t1, .inl (G.2.1 0, 6, .inl tS)), (t2, .inl (G.2.1 0, 6, .inl tL)), (t3, .inl (G.2.1 2, 6, .inl tD)), (att, .inl (G.2.1 0, 6, .inl ftt)), (ate, .inl (G.2.1 0, 200, .inl fte))]) [0, 1, 2, 3, 4, 5, 6] rfl
  have hDc := hD.sub (ws' := [(h, .inr (1, [.ref m0, .ref aml, .ref amb, .ref t0, .ref atl, .ref att, .ref ate, .ref b0, .ref asb, .ref r0, .ref asr, .int trp])), (t0, .inr (0, [.int 200, .ref t1, .ref t2, .ref t3, .int tC, .int tU])), (t1, .inl (G.2.1 0, 6, .inl tS)), (t2, .inl (G.2.1 0, 6, .inl tL)), (t3, .inl (G.2.1 2, 6, .inl tD)), (att, .inl (G.2.1 0, 6, .inl ftt)), (ate, .inl (G.2.1 0, 200, .inl fte))]) [0, 1, 2, 3, 4, 5, 6] (by decide) rfl
  have hFc := va_free (wc := [(h, .inr (1, [.ref m0, .ref aml, .ref amb, .ref t0, .ref atl, .ref att, .ref ate, .ref b0, .ref asb, .ref r0, .ref asr, .int trp])), (t0, .inr (0, [.int 200, .ref t1, .ref t2, .ref t3, .int tC, .int tU])), (t1, .inl (G.2.1 0, 6, .inl tS)), (t2, .inl (G.2.1 0, 6, .inl tL)), (t3, .inl (G.2.1 2, 6, .inl tD)), (att, .inl (G.2.1 0, 6, .inl ftt)), (ate, .inl (G.2.1 0, 200, .inl fte))]) hD hS hA [0, 1, 2, 3, 4, 5, 6] rfl
  refine tx_v (tr_runV (As := [.int k, .int k2, .int to, .int fr, .int cn]) (rest := []) ⟨hx, hb, hml, hown, hts⟩ (t_Pm_copyTable l hst G h m0 aml amb t0 atl att ate b0 asb r0 asr t1 t2 t3 trp tC tU tS tL tD ftt fte k k2 to fr cn _ _ _ hw) (cwV 5 hts (gi_V ml_Lw_47 im_Pm_copyTable se_Pm_copyTable ini_Pm co_Pm_copyTable) rfl rfl rfl (by decide +kernel) ⟨Nat.le_of_ble_eq_true rfl, Nat.le_of_ble_eq_true rfl⟩) ⟨cm_blind, va_recv hK hPc (ci := 1) (q0 := 0) rfl rfl, cm_pre hcx hS hPc hDc hFc⟩ rfl rfl hl.1 rfl (lv_room (Nat.le_of_ble_eq_true rfl)) d_Lw_copyTable_8 ⟨Nat.le_of_ble_eq_true rfl, Nat.le_of_ble_eq_true rfl⟩) hS hP hD hA [0, 1, 2, 3, 4, 5, 6] rfl (fun _ => rfl) (fun _ => rfl) (fun E_3 u_2 hw q9 ce9 H locs hP hD hS h91 h92 h93 => ?_) (fun u_2 H locs hw hP hD hS => ?_)
  · have hE : E_3 = E_ill ∨ E_3 = E_uns := hw.2.2
    rcases hE with hE | hE
    · subst hE
      replace hw := hw.1 rfl
      have hP : va_P G.1 vwC [(h, .inr (1, [.ref m0, .ref aml, .ref amb, .ref t0, .ref atl, .ref att, .ref ate, .ref b0, .ref asb, .ref r0, .ref asr, .int u_2.1])), (t0, .inr (0, [.int 200, .ref t1, .ref t2, .ref t3, .int tC, .int tU])), (t1, .inl (G.2.1 0, 6, .inl tS)), (t2, .inl (G.2.1 0, 6, .inl tL)), (t3, .inl (G.2.1 2, 6, .inl tD)), (att, .inl (G.2.1 0, 6, .inl ftt)), (ate, .inl (G.2.1 0, 200, .inl u_2.2))] H := hP
      have hD : va_D A [(h, .inr (1, [.ref m0, .ref aml, .ref amb, .ref t0, .ref atl, .ref att, .ref ate, .ref b0, .ref asb, .ref r0, .ref asr, .int u_2.1])), (t0, .inr (0, [.int 200, .ref t1, .ref t2, .ref t3, .int tC, .int tU])), (t1, .inl (G.2.1 0, 6, .inl tS)), (t2, .inl (G.2.1 0, 6, .inl tL)), (t3, .inl (G.2.1 2, 6, .inl tD)), (att, .inl (G.2.1 0, 6, .inl ftt)), (ate, .inl (G.2.1 0, 200, .inl u_2.2))] := hD
      refine ct_1h hown htb (by decide) (by decide) (by decide) (hts _ cl_Lw_13) (hcx.now.2.2.1 _ _ hc_ill) h91 h92 h93 ?_
      refine lv_astore (lv' := [(6, .ref q9), (0, .ref h), (1, .int k), (2, .int k2), (3, .int to), (4, .int fr), (5, .int cn)]) hx hb d_Lw_copyTable_14 hl (by decide) rfl (fun ls hl => ?_)
      refine lv_iconst (v := 1) hx hb d_Lw_copyTable_16 (by decide) ?_
      exact W.iret (v := 1) hx hb hr (fun t ht hW => ⟨⟨1, (u_2.1, u_2.2), rfl, hw, by have h9 := hP; rw [← ht] at h9; exact h9⟩, hS.F ht⟩) hS.2.2 d_Lw_copyTable_17
    · subst hE
      replace hw := hw.2.1 rfl
      have hP : va_P G.1 vwC [(h, .inr (1, [.ref m0, .ref aml, .ref amb, .ref t0, .ref atl, .ref att, .ref ate, .ref b0, .ref asb, .ref r0, .ref asr, .int u_2.1])), (t0, .inr (0, [.int 200, .ref t1, .ref t2, .ref t3, .int tC, .int tU])), (t1, .inl (G.2.1 0, 6, .inl tS)), (t2, .inl (G.2.1 0, 6, .inl tL)), (t3, .inl (G.2.1 2, 6, .inl tD)), (att, .inl (G.2.1 0, 6, .inl ftt)), (ate, .inl (G.2.1 0, 200, .inl u_2.2))] H := hP
      have hD : va_D A [(h, .inr (1, [.ref m0, .ref aml, .ref amb, .ref t0, .ref atl, .ref att, .ref ate, .ref b0, .ref asb, .ref r0, .ref asr, .int u_2.1])), (t0, .inr (0, [.int 200, .ref t1, .ref t2, .ref t3, .int tC, .int tU])), (t1, .inl (G.2.1 0, 6, .inl tS)), (t2, .inl (G.2.1 0, 6, .inl tL)), (t3, .inl (G.2.1 2, 6, .inl tD)), (att, .inl (G.2.1 0, 6, .inl ftt)), (ate, .inl (G.2.1 0, 200, .inl u_2.2))] := hD
      refine ct_2h hown htb (by decide) (by decide) (by decide) (by decide) (by decide) (by decide) (hts _ cl_Lw_13) hcx.now.2.2.2.2.2.2 (hts _ cl_Lw_15) (hcx.now.2.2.1 _ _ hc_uns) h91 h92 h93 ?_
      refine lv_astore (lv' := [(6, .ref q9), (0, .ref h), (1, .int k), (2, .int k2), (3, .int to), (4, .int fr), (5, .int cn)]) hx hb d_Lw_copyTable_18 hl (by decide) rfl (fun ls hl => ?_)
      refine lv_iconst (v := 2) hx hb d_Lw_copyTable_20 (by decide) ?_
      exact W.iret (v := 2) hx hb hr (fun t ht hW => ⟨⟨2, (u_2.1, u_2.2), rfl, hw, by have h9 := hP; rw [← ht] at h9; exact h9⟩, hS.F ht⟩) hS.2.2 d_Lw_copyTable_21
  · have hP : va_P G.1 vwC [(h, .inr (1, [.ref m0, .ref aml, .ref amb, .ref t0, .ref atl, .ref att, .ref ate, .ref b0, .ref asb, .ref r0, .ref asr, .int u_2.1])), (t0, .inr (0, [.int 200, .ref t1, .ref t2, .ref t3, .int tC, .int tU])), (t1, .inl (G.2.1 0, 6, .inl tS)), (t2, .inl (G.2.1 0, 6, .inl tL)), (t3, .inl (G.2.1 2, 6, .inl tD)), (att, .inl (G.2.1 0, 6, .inl ftt)), (ate, .inl (G.2.1 0, 200, .inl u_2.2))] H := hP
    have hD : va_D A [(h, .inr (1, [.ref m0, .ref aml, .ref amb, .ref t0, .ref atl, .ref att, .ref ate, .ref b0, .ref asb, .ref r0, .ref asr, .int u_2.1])), (t0, .inr (0, [.int 200, .ref t1, .ref t2, .ref t3, .int tC, .int tU])), (t1, .inl (G.2.1 0, 6, .inl tS)), (t2, .inl (G.2.1 0, 6, .inl tL)), (t3, .inl (G.2.1 2, 6, .inl tD)), (att, .inl (G.2.1 0, 6, .inl ftt)), (ate, .inl (G.2.1 0, 200, .inl u_2.2))] := hD
    refine lv_goto (tgt := 22) hx hb d_Lw_copyTable_11 (by decide) ?_
    refine lv_iconst (v := 0) hx hb d_Lw_copyTable_22 (by decide) ?_
    exact W.iret (v := 0) hx hb hr (fun t ht hW => ⟨⟨0, (u_2.1, u_2.2), rfl, hw, by have h9 := hP; rw [← ht] at h9; exact h9⟩, hS.F ht⟩) hS.2.2 d_Lw_copyTable_23
def wp_Lw_initTable (post : Int32 → (Int32 × (Nat → Int32)) → Prop) (trp : Int32) (tC : Int32) (tU : Int32) (tS : Nat → Int32) (tL : Nat → Int32) (tD : Nat → Int32) (rC : Int32) (rU : Int32) (rS : Nat → Int32) (rL : Nat → Int32) (rD : Nat → Int32) (fte : Nat → Int32) (fsr : Nat → Int32) (k : Int32) (sg : Int32) (to : Int32) (fr : Int32) (cn : Int32) : Prop := wp_Pm_initTable (fun u_2 => post 0 (u_2.1, u_2.2)) (fun E_3 u_2 => ((E_3 = E_ill → (post 1 (u_2.1, u_2.2))) ∧ (E_3 = E_uns → (post 2 (u_2.1, u_2.2))) ∧ (E_3 = E_ill ∨ E_3 = E_uns))) trp tC tU tS tL tD rC rU rS rL rD fte fsr k sg to fr cn
set_option maxHeartbeats 4000000 in
set_option maxRecDepth 100000 in
theorem t_Lw_initTable (l : Launch) (hst : l.stackTraces = false) (G : cxT) (h : Nat) (m0 : Nat) (aml : Nat) (amb : Nat) (t0 : Nat) (atl : Nat) (att : Nat) (ate : Nat) (b0 : Nat) (asb : Nat) (r0 : Nat) (asr : Nat) (t1 : Nat) (t2 : Nat) (t3 : Nat) (r1 : Nat) (r2 : Nat) (r3 : Nat) (trp : Int32) (tC : Int32) (tU : Int32) (tS : Nat → Int32) (tL : Nat → Int32) (tD : Nat → Int32) (rC : Int32) (rU : Int32) (rS : Nat → Int32) (rL : Nat → Int32) (rD : Nat → Int32) (fte : Nat → Int32) (fsr : Nat → Int32) (k : Int32) (sg : Int32) (to : Int32) (fr : Int32) (cn : Int32) (sz : Nat) (post : Int32 → (Int32 × (Nat → Int32)) → Prop) (hw : wp_Lw_initTable post trp tC tU tS tL tD rC rU rS rL rD fte fsr k sg to fr cn) : Met l y_Lw_initTable [.codeWith y_Lw_initTable b_Lw_initTable 7 (some .int) [(0, 11, 14, 13), (0, 11, 18, 15)]] ({ frames := 10, cells := 2, slots := 12, locals := 200 } : Room) (cm G [.ref h, .int k, .int sg, .int to, .int fr, .int cn] [(h, .inr (1, [.ref m0, .ref aml, .ref amb, .ref t0, .ref atl, .ref att, .ref ate, .ref b0, .ref asb, .ref r0, .ref asr, .int trp])), (t0, .inr (0, [.int 200, .ref t1, .ref t2, .ref t3, .int tC, .int tU])), (t1, .inl (G.2.1 0, 6, .inl tS)), (t2, .inl (G.2.1 0, 6, .inl tL)), (t3, .inl (G.2.1 2, 6, .inl tD)), (r0, .inr (0, [.int 200, .ref r1, .ref r2, .ref r3, .int rC, .int rU])), (r1, .inl (G.2.1 0, 24, .inl rS)), (r2, .inl (G.2.1 0, 24, .inl rL)), (r3, .inl (G.2.1 2, 24, .inl rD)), (ate, .inl (G.2.1 0, 200, .inl fte)), (asr, .inl (G.2.1 0, 200, .inl fsr))] sz) (va_Qi post (fun u t => va_P G.1 vwC [(h, .inr (1, [.ref m0, .ref aml, .ref amb, .ref t0, .ref atl, .ref att, .ref ate, .ref b0, .ref asb, .ref r0, .ref asr, .int u.1])), (t0, .inr (0, [.int 200, .ref t1, .ref t2, .ref t3, .int tC, .int tU])), (t1, .inl (G.2.1 0, 6, .inl tS)), (t2, .inl (G.2.1 0, 6, .inl tL)), (t3, .inl (G.2.1 2, 6, .inl tD)), (r0, .inr (0, [.int 200, .ref r1, .ref r2, .ref r3, .int rC, .int rU])), (r1, .inl (G.2.1 0, 24, .inl rS)), (r2, .inl (G.2.1 0, 24, .inl rL)), (r3, .inl (G.2.1 2, 24, .inl rD)), (ate, .inl (G.2.1 0, 200, .inl u.2)), (asr, .inl (G.2.1 0, 200, .inl fsr))] t.heap) (va_A [(h, .inr (1, [.ref m0, .ref aml, .ref amb, .ref t0, .ref atl, .ref att, .ref ate, .ref b0, .ref asb, .ref r0, .ref asr, .int trp])), (t0, .inr (0, [.int 200, .ref t1, .ref t2, .ref t3, .int tC, .int tU])), (t1, .inl (G.2.1 0, 6, .inl tS)), (t2, .inl (G.2.1 0, 6, .inl tL)), (t3, .inl (G.2.1 2, 6, .inl tD)), (r0, .inr (0, [.int 200, .ref r1, .ref r2, .ref r3, .int rC, .int rU])), (r1, .inl (G.2.1 0, 24, .inl rS)), (r2, .inl (G.2.1 0, 24, .inl rL)), (r3, .inl (G.2.1 2, 24, .inl rD)), (ate, .inl (G.2.1 0, 200, .inl fte)), (asr, .inl (G.2.1 0, 200, .inl fsr))] sz)) 2 12 (va_A [(h, .inr (1, [.ref m0, .ref aml, .ref amb, .ref t0, .ref atl, .ref att, .ref ate, .ref b0, .ref asb, .ref r0, .ref asr, .int trp])), (t0, .inr (0, [.int 200, .ref t1, .ref t2, .ref t3, .int tC, .int tU])), (t1, .inl (G.2.1 0, 6, .inl tS)), (t2, .inl (G.2.1 0, 6, .inl tL)), (t3, .inl (G.2.1 2, 6, .inl tD)), (r0, .inr (0, [.int 200, .ref r1, .ref r2, .ref r3, .int rC, .int rU])), (r1, .inl (G.2.1 0, 24, .inl rS)), (r2, .inl (G.2.1 0, 24, .inl rL)), (r3, .inl (G.2.1 2, 24, .inl rD)), (ate, .inl (G.2.1 0, 200, .inl fte)), (asr, .inl (G.2.1 0, 200, .inl fsr))] sz) := by
  refine va_MetW (cc := b_Lw_initTable) (maxL := 7) (ret := (some .int)) (by decide +kernel) rfl ?_
  intro p e s m args below meth c s₁ B hml hv
  obtain ⟨rfl, hsz, hcx, hP, hD0⟩ := hv
  have hx := B.exec
  have hb := B.bytes
  have hr := B.returns
  have hlocks := B.notSynchronized
  have hown : s.vm.findClass R_Lw = some m.cls := findClass_of_methodNamed B.named
  have htb := ct_table (ws := [.codeWith y_Lw_initTable b_Lw_initTable 7 (some .int) [(0, 11, 14, 13), (0, 11, 18, 15)]]) (rm := ({ frames := 10, cells := 2, slots := 12, locals := 200 } : Room)) B rfl
  subst hsz
  have hD := hD0.self (sz := s.heap.size)
  generalize hAe : va_A [(h, .inr (1, [.ref m0, .ref aml, .ref amb, .ref t0, .ref atl, .ref att, .ref ate, .ref b0, .ref asb, .ref r0, .ref asr, .int trp])), (t0, .inr (0, [.int 200, .ref t1, .ref t2, .ref t3, .int tC, .int tU])), (t1, .inl (G.2.1 0, 6, .inl tS)), (t2, .inl (G.2.1 0, 6, .inl tL)), (t3, .inl (G.2.1 2, 6, .inl tD)), (r0, .inr (0, [.int 200, .ref r1, .ref r2, .ref r3, .int rC, .int rU])), (r1, .inl (G.2.1 0, 24, .inl rS)), (r2, .inl (G.2.1 0, 24, .inl rL)), (r3, .inl (G.2.1 2, 24, .inl rD)), (ate, .inl (G.2.1 0, 200, .inl fte)), (asr, .inl (G.2.1 0, 200, .inl fsr))] s.heap.size = A at hD hcx ⊢
  have hA : ∀ q : Nat, s.heap.size ≤ q → A q := fun q h => by rw [← hAe]; exact Or.inr h
  have hS : va_S A s.heap s.heap [] := va_S.rf
  have hts := hcx.now.1 [.ref h, .int k, .int sg, .int to, .int fr, .int cn].toArray
  have hK := hcx.now.2.1
  have hl := lv_entry ([.ref h, .int k, .int sg, .int to, .int fr, .int cn]) (n := 7) (Nat.le_of_ble_eq_true rfl)
  rw [lg_entry_eq]
  generalize (lg_sl ([.ref h, .int k, .int sg, .int to, .int fr, .int cn]) ++ List.replicate (7 - (lg_sl ([.ref h, .int k, .int sg, .int to, .int fr, .int cn])).length) Slot.unset).toArray = ls at hl ⊢
  have hl : lv_has ls 7 [(0, .ref h), (1, .int k), (2, .int sg), (3, .int to), (4, .int fr), (5, .int cn)] := hl
  unfold wp_Lw_initTable at hw
  refine lv_aload_n hx hb d_Lw_initTable_0 rfl (lv_at hl 0 rfl) ?_
  refine lv_iload_n hx hb d_Lw_initTable_1 rfl (lv_at hl 1 rfl) ?_
  refine lv_iload_n hx hb d_Lw_initTable_2 rfl (lv_at hl 2 rfl) ?_
  refine lv_iload_n hx hb d_Lw_initTable_3 rfl (lv_at hl 3 rfl) ?_
  refine lv_iload hx hb d_Lw_initTable_4 (lv_at hl 4 rfl) ?_
  refine lv_iload hx hb d_Lw_initTable_6 (lv_at hl 5 rfl) ?_
  have hPc := hP.sub (ws' := [(h, .inr (1, [.ref m0, .ref aml, .ref amb, .ref t0, .ref atl, .ref att, .ref ate, .ref b0, .ref asb, .ref r0, .ref asr, .int trp])), (t0, .inr (0, [.int 200, .ref t1, .ref t2, .ref t3, .int tC, .int tU])), (t1, .inl (G.2.1 0, 6, .inl tS)), (t2, .inl (G.2.1 0, 6, .inl tL)), (t3, .inl (G.2.1 2, 6, .inl tD)), (r0, .inr (0, [.int 200, .ref r1, .ref r2, .ref r3, .int rC, .int rU])), (r1, .inl (G.2.1 0, 24, .inl rS)), (r2, .inl (G.2.1 0, 24, .inl rL)), (r3, .inl (G.2.1 2, 24, .inl rD)), (ate, .inl (G.2.1 0, 200, .inl fte)), (asr, .inl (G.2.1 0, 200, .inl fsr))]) [0, 1, 2, 3, 4, 5, 6, 7, 8, 9, 10] rfl
  have hDc := hD.sub (ws' := [(h, .inr (1, [.ref m0, .ref aml, .ref amb, .ref t0, .ref atl, .ref att, .ref ate, .ref b0, .ref asb, .ref r0, .ref asr, .int trp])), (t0, .inr (0, [.int 200, .ref t1, .ref t2, .ref t3, .int tC, .int tU])), (t1, .inl (G.2.1 0, 6, .inl tS)), (t2, .inl (G.2.1 0, 6, .inl tL)), (t3, .inl (G.2.1 2, 6, .inl tD)), (r0, .inr (0, [.int 200, .ref r1, .ref r2, .ref r3, .int rC, .int rU])), (r1, .inl (G.2.1 0, 24, .inl rS)), (r2, .inl (G.2.1 0, 24, .inl rL)), (r3, .inl (G.2.1 2, 24, .inl rD)), (ate, .inl (G.2.1 0, 200, .inl fte)), (asr, .inl (G.2.1 0, 200, .inl fsr))]) [0, 1, 2, 3, 4, 5, 6, 7, 8, 9, 10] (by decide) rfl
  have hFc := va_free (wc := [(h, .inr (1, [.ref m0, .ref aml, .ref amb, .ref t0, .ref atl, .ref att, .ref ate, .ref b0, .ref asb, .ref r0, .ref asr, .int trp])), (t0, .inr (0, [.int 200, .ref t1, .ref t2, .ref t3, .int tC, .int tU])), (t1, .inl (G.2.1 0, 6, .inl tS)), (t2, .inl (G.2.1 0, 6, .inl tL)), (t3, .inl (G.2.1 2, 6, .inl tD)), (r0, .inr (0, [.int 200, .ref r1, .ref r2, .ref r3, .int rC, .int rU])), (r1, .inl (G.2.1 0, 24, .inl rS)), (r2, .inl (G.2.1 0, 24, .inl rL)), (r3, .inl (G.2.1 2, 24, .inl rD)), (ate, .inl (G.2.1 0, 200, .inl fte)), (asr, .inl (G.2.1 0, 200, .inl fsr))]) hD hS hA [0, 1, 2, 3, 4, 5, 6, 7, 8, 9, 10] rfl
  refine tx_v (tr_runV (As := [.int k, .int sg, .int to, .int fr, .int cn]) (rest := []) ⟨hx, hb, hml, hown, hts⟩ (t_Pm_initTable l hst G h m0 aml amb t0 atl att ate b0 asb r0 asr t1 t2 t3 r1 r2 r3 trp tC tU tS tL tD rC rU rS rL rD fte fsr k sg to fr cn _ _ _ hw) (cwV 5 hts (gi_V ml_Lw_50 im_Pm_initTable se_Pm_initTable ini_Pm co_Pm_initTable) rfl rfl rfl (by decide +kernel) ⟨Nat.le_of_ble_eq_true rfl, Nat.le_of_ble_eq_true rfl⟩) ⟨cm_blind, va_recv hK hPc (ci := 1) (q0 := 0) rfl rfl, cm_pre hcx hS hPc hDc hFc⟩ rfl rfl hl.1 rfl (lv_room (Nat.le_of_ble_eq_true rfl)) d_Lw_initTable_8 ⟨Nat.le_of_ble_eq_true rfl, Nat.le_of_ble_eq_true rfl⟩) hS hP hD hA [0, 1, 2, 3, 4, 5, 6, 7, 8, 9, 10] rfl (fun _ => rfl) (fun _ => rfl) (fun E_3 u_2 hw q9 ce9 H locs hP hD hS h91 h92 h93 => ?_) (fun u_2 H locs hw hP hD hS => ?_)
  · have hE : E_3 = E_ill ∨ E_3 = E_uns := hw.2.2
    rcases hE with hE | hE
    · subst hE
      replace hw := hw.1 rfl
      have hP : va_P G.1 vwC [(h, .inr (1, [.ref m0, .ref aml, .ref amb, .ref t0, .ref atl, .ref att, .ref ate, .ref b0, .ref asb, .ref r0, .ref asr, .int u_2.1])), (t0, .inr (0, [.int 200, .ref t1, .ref t2, .ref t3, .int tC, .int tU])), (t1, .inl (G.2.1 0, 6, .inl tS)), (t2, .inl (G.2.1 0, 6, .inl tL)), (t3, .inl (G.2.1 2, 6, .inl tD)), (r0, .inr (0, [.int 200, .ref r1, .ref r2, .ref r3, .int rC, .int rU])), (r1, .inl (G.2.1 0, 24, .inl rS)), (r2, .inl (G.2.1 0, 24, .inl rL)), (r3, .inl (G.2.1 2, 24, .inl rD)), (ate, .inl (G.2.1 0, 200, .inl u_2.2)), (asr, .inl (G.2.1 0, 200, .inl fsr))] H := hP
      have hD : va_D A [(h, .inr (1, [.ref m0, .ref aml, .ref amb, .ref t0, .ref atl, .ref att, .ref ate, .ref b0, .ref asb, .ref r0, .ref asr, .int u_2.1])), (t0, .inr (0, [.int 200, .ref t1, .ref t2, .ref t3, .int tC, .int tU])), (t1, .inl (G.2.1 0, 6, .inl tS)), (t2, .inl (G.2.1 0, 6, .inl tL)), (t3, .inl (G.2.1 2, 6, .inl tD)), (r0, .inr (0, [.int 200, .ref r1, .ref r2, .ref r3, .int rC, .int rU])), (r1, .inl (G.2.1 0, 24, .inl rS)), (r2, .inl (G.2.1 0, 24, .inl rL)), (r3, .inl (G.2.1 2, 24, .inl rD)), (ate, .inl (G.2.1 0, 200, .inl u_2.2)), (asr, .inl (G.2.1 0, 200, .inl fsr))] := hD
      refine ct_1h hown htb (by decide) (by decide) (by decide) (hts _ cl_Lw_13) (hcx.now.2.2.1 _ _ hc_ill) h91 h92 h93 ?_
      refine lv_astore (lv' := [(6, .ref q9), (0, .ref h), (1, .int k), (2, .int sg), (3, .int to), (4, .int fr), (5, .int cn)]) hx hb d_Lw_initTable_14 hl (by decide) rfl (fun ls hl => ?_)
      refine lv_iconst (v := 1) hx hb d_Lw_initTable_16 (by decide) ?_
      exact W.iret (v := 1) hx hb hr (fun t ht hW => ⟨⟨1, (u_2.1, u_2.2), rfl, hw, by have h9 := hP; rw [← ht] at h9; exact h9⟩, hS.F ht⟩) hS.2.2 d_Lw_initTable_17
    · subst hE
      replace hw := hw.2.1 rfl
      have hP : va_P G.1 vwC [(h, .inr (1, [.ref m0, .ref aml, .ref amb, .ref t0, .ref atl, .ref att, .ref ate, .ref b0, .ref asb, .ref r0, .ref asr, .int u_2.1])), (t0, .inr (0, [.int 200, .ref t1, .ref t2, .ref t3, .int tC, .int tU])), (t1, .inl (G.2.1 0, 6, .inl tS)), (t2, .inl (G.2.1 0, 6, .inl tL)), (t3, .inl (G.2.1 2, 6, .inl tD)), (r0, .inr (0, [.int 200, .ref r1, .ref r2, .ref r3, .int rC, .int rU])), (r1, .inl (G.2.1 0, 24, .inl rS)), (r2, .inl (G.2.1 0, 24, .inl rL)), (r3, .inl (G.2.1 2, 24, .inl rD)), (ate, .inl (G.2.1 0, 200, .inl u_2.2)), (asr, .inl (G.2.1 0, 200, .inl fsr))] H := hP
      have hD : va_D A [(h, .inr (1, [.ref m0, .ref aml, .ref amb, .ref t0, .ref atl, .ref att, .ref ate, .ref b0, .ref asb, .ref r0, .ref asr, .int u_2.1])), (t0, .inr (0, [.int 200, .ref t1, .ref t2, .ref t3, .int tC, .int tU])), (t1, .inl (G.2.1 0, 6, .inl tS)), (t2, .inl (G.2.1 0, 6, .inl tL)), (t3, .inl (G.2.1 2, 6, .inl tD)), (r0, .inr (0, [.int 200, .ref r1, .ref r2, .ref r3, .int rC, .int rU])), (r1, .inl (G.2.1 0, 24, .inl rS)), (r2, .inl (G.2.1 0, 24, .inl rL)), (r3, .inl (G.2.1 2, 24, .inl rD)), (ate, .inl (G.2.1 0, 200, .inl u_2.2)), (asr, .inl (G.2.1 0, 200, .inl fsr))] := hD
      refine ct_2h hown htb (by decide) (by decide) (by decide) (by decide) (by decide) (by decide) (hts _ cl_Lw_13) hcx.now.2.2.2.2.2.2 (hts _ cl_Lw_15) (hcx.now.2.2.1 _ _ hc_uns) h91 h92 h93 ?_
      refine lv_astore (lv' := [(6, .ref q9), (0, .ref h), (1, .int k), (2, .int sg), (3, .int to), (4, .int fr), (5, .int cn)]) hx hb d_Lw_initTable_18 hl (by decide) rfl (fun ls hl => ?_)
      refine lv_iconst (v := 2) hx hb d_Lw_initTable_20 (by decide) ?_
      exact W.iret (v := 2) hx hb hr (fun t ht hW => ⟨⟨2, (u_2.1, u_2.2), rfl, hw, by have h9 := hP; rw [← ht] at h9; exact h9⟩, hS.F ht⟩) hS.2.2 d_Lw_initTable_21
  · have hP : va_P G.1 vwC [(h, .inr (1, [.ref m0, .ref aml, .ref amb, .ref t0, .ref atl, .ref att, .ref ate, .ref b0, .ref asb, .ref r0, .ref asr, .int u_2.1])), (t0, .inr (0, [.int 200, .ref t1, .ref t2, .ref t3, .int tC, .int tU])), (t1, .inl (G.2.1 0, 6, .inl tS)), (t2, .inl (G.2.1 0, 6, .inl tL)), (t3, .inl (G.2.1 2, 6, .inl tD)), (r0, .inr (0, [.int 200, .ref r1, .ref r2, .ref r3, .int rC, .int rU])), (r1, .inl (G.2.1 0, 24, .inl rS)), (r2, .inl (G.2.1 0, 24, .inl rL)), (r3, .inl (G.2.1 2, 24, .inl rD)), (ate, .inl (G.2.1 0, 200, .inl u_2.2)), (asr, .inl (G.2.1 0, 200, .inl fsr))] H := hP
    have hD : va_D A [(h, .inr (1, [.ref m0, .ref aml, .ref amb, .ref t0, .ref atl, .ref att, .ref ate, .ref b0, .ref asb, .ref r0, .ref asr, .int u_2.1])), (t0, .inr (0, [.int 200, .ref t1, .ref t2, .ref t3, .int tC, .int tU])), (t1, .inl (G.2.1 0, 6, .inl tS)), (t2, .inl (G.2.1 0, 6, .inl tL)), (t3, .inl (G.2.1 2, 6, .inl tD)), (r0, .inr (0, [.int 200, .ref r1, .ref r2, .ref r3, .int rC, .int rU])), (r1, .inl (G.2.1 0, 24, .inl rS)), (r2, .inl (G.2.1 0, 24, .inl rL)), (r3, .inl (G.2.1 2, 24, .inl rD)), (ate, .inl (G.2.1 0, 200, .inl u_2.2)), (asr, .inl (G.2.1 0, 200, .inl fsr))] := hD
    refine lv_goto (tgt := 22) hx hb d_Lw_initTable_11 (by decide) ?_
    refine lv_iconst (v := 0) hx hb d_Lw_initTable_22 (by decide) ?_
    exact W.iret (v := 0) hx hb hr (fun t ht hW => ⟨⟨0, (u_2.1, u_2.2), rfl, hw, by have h9 := hP; rw [← ht] at h9; exact h9⟩, hS.F ht⟩) hS.2.2 d_Lw_initTable_23
