theorem w_ld : ∀ m : Nat, m < 14 → w_of (nI (40 + m)) 40 14 wLoad = wLoad m := by decide +kernel
theorem w_sd : ∀ m : Nat, m < 9 → w_of (nI (54 + m)) 54 9 wStore = wStore m := by decide +kernel
theorem w_of_lo {op fst : Int32} {n : Nat} {f : Nat → Int32} (h : op.toInt < fst.toInt) : w_of op fst n f = 0 := by
  unfold w_of
  rw [if_pos (Int32.lt_iff_toInt_lt.mpr h)]
theorem w_of_hi {op fst : Int32} {n : Nat} {f : Nat → Int32} (hf : 0 ≤ fst.toInt) (hn : n < 2 ^ 31) (h : fst.toInt + n ≤ op.toInt) : w_of op fst n f = 0 := by
  unfold w_of
  have e : (op - fst).toInt = op.toInt - fst.toInt := by
    rw [Int32.toInt_sub]
    have h3 := Int32.toInt_lt op
    have h4 := Int32.le_toInt fst
    have h5 := Int32.le_toInt op
    have h6 := Int32.toInt_lt fst
    exact Int.bmod_eq_of_le (by omega) (by omega)
  rw [if_neg (by rw [Int32.lt_iff_toInt_lt]; omega), if_neg (by rw [Int32.lt_iff_toInt_lt, e, nI_toInt hn]; omega)]
theorem i32_between {op : Int32} {a b : Nat} (h1 : (a : Int) ≤ op.toInt) (h2 : op.toInt < b) : ∃ m : Nat, a + m < b ∧ op = nI (a + m) := by
  obtain ⟨j, hj, rfl⟩ := nI_of (x := op) (by rw [Int32.lt_iff_toInt_lt]; have e : (0 : Int32).toInt = 0 := rfl; omega)
  rw [nI_toInt hj] at h1 h2
  exact ⟨j - a, by omega, by rw [show a + (j - a) = j by omega]⟩
theorem ld_41 : w_of 41 40 14 wLoad = 8 := by decide +kernel
theorem ld_43 : w_of 43 40 14 wLoad = 8 := by decide +kernel
theorem ld_40 : w_of 40 40 14 wLoad = 4 := by decide +kernel
theorem ld_42 : w_of 42 40 14 wLoad = 4 := by decide +kernel
theorem ld_52 : w_of 52 40 14 wLoad = 4 := by decide +kernel
theorem ld_53 : w_of 53 40 14 wLoad = 4 := by decide +kernel
theorem ld_46 : w_of 46 40 14 wLoad = 2 := by decide +kernel
theorem ld_47 : w_of 47 40 14 wLoad = 2 := by decide +kernel
theorem ld_50 : w_of 50 40 14 wLoad = 2 := by decide +kernel
theorem ld_51 : w_of 51 40 14 wLoad = 2 := by decide +kernel
theorem ld_1 : ∀ m : Nat, 44 + m < 50 → nI (44 + m) ≠ 46 → nI (44 + m) ≠ 47 → w_of (nI (44 + m)) 40 14 wLoad = 1 := by
  intro m hm
  have q : ∀ m : Nat, m < 6 → nI (44 + m) ≠ 46 → nI (44 + m) ≠ 47 → w_of (nI (44 + m)) 40 14 wLoad = 1 := by decide +kernel
  exact q m (by omega)
theorem ld_lo {op : Int32} (h : op ≤ 43) (h0 : ¬ op = 40) (h1 : ¬ op = 41) (h2 : ¬ op = 42) (h3 : ¬ op = 43) : w_of op 40 14 wLoad = 0 := by
  refine w_of_lo ?_
  rw [← Int32.toInt_inj] at h0 h1 h2 h3
  rw [Int32.le_iff_toInt_le] at h
  have e0 : (40 : Int32).toInt = 40 := rfl
  have e1 : (41 : Int32).toInt = 41 := rfl
  have e2 : (42 : Int32).toInt = 42 := rfl
  have e3 : (43 : Int32).toInt = 43 := rfl
  omega
theorem ld_hi {op : Int32} (h : 50 ≤ op) (h0 : ¬ op = 50) (h1 : ¬ op = 51) (h2 : ¬ op = 52) (h3 : ¬ op = 53) : w_of op 40 14 wLoad = 0 := by
  refine w_of_hi (by decide) (by decide) ?_
  rw [← Int32.toInt_inj] at h0 h1 h2 h3
  rw [Int32.le_iff_toInt_le] at h
  have e : (40 : Int32).toInt = 40 := rfl
  have e0 : (50 : Int32).toInt = 50 := rfl
  have e1 : (51 : Int32).toInt = 51 := rfl
  have e2 : (52 : Int32).toInt = 52 := rfl
  have e3 : (53 : Int32).toInt = 53 := rfl
  omega
theorem sd_v : w_of 54 54 9 wStore = 4 ∧ w_of 55 54 9 wStore = 8 ∧ w_of 56 54 9 wStore = 4 ∧ w_of 57 54 9 wStore = 8 ∧ w_of 58 54 9 wStore = 1 ∧ w_of 59 54 9 wStore = 2 ∧ w_of 60 54 9 wStore = 1 ∧ w_of 61 54 9 wStore = 2 ∧ w_of 62 54 9 wStore = 4 := by decide +kernel
theorem sd_no {op : Int32} (h : ∀ m : Nat, m < 9 → ¬ op = nI (54 + m)) : w_of op 54 9 wStore = 0 := by
  have e : (54 : Int32).toInt = 54 := rfl
  by_cases h1 : op.toInt < 54
  · exact w_of_lo (by rw [e]; exact h1)
  · by_cases h2 : op.toInt < 63
    · obtain ⟨m, hm, rfl⟩ := i32_between (op := op) (a := 54) (b := 63) (by omega) (by omega)
      exact absurd rfl (h m (by omega))
    · exact w_of_hi (by decide) (by decide) (by rw [e]; omega)
/-- the segments' bytes that a log reaches lie in their row -/
def wr_ok (ki le so : Nat → Int32) (c N : Nat) : Prop := ∀ w, w < c → ki w = 4 → ∀ a : Int32, ¬ a < 0 → ¬ le w ≤ a → vp_in (so w + a) N
theorem lg_cmp0 (x : Int64) : lg_cmp x 0 = 0 ↔ x = 0 := by
  unfold lg_cmp
  by_cases h1 : (0 : Int64) < x
  · rw [if_pos h1]
    constructor
    · intro h; exact absurd h (by decide)
    · intro h; rw [h] at h1; exact absurd h1 (by decide)
  · rw [if_neg h1]
    by_cases h2 : x = 0
    · rw [if_pos h2]; simp [h2]
    · rw [if_neg h2]
      constructor
      · intro h; exact absurd h (by decide)
      · intro h; exact absurd h h2

theorem c_Md_loads (l : Launch) (G : cxT) (op : Int32) : Met l y_Md_loads [.code y_Md_loads b_Md_loads 1 (some .int)] ({ frames := 0, cells := 0, slots := 0, locals := 0 } : Room) (cp G [.int op] []) (va_Qi (fun r (_ : Unit) => (fun r => r = (w_of op 40 14 wLoad)) r) (fun _ _ => True) (fun _ => False)) 0 0 (fun _ => False) :=
  t_Md_loads l G op (fun r => r = (w_of op 40 14 wLoad)) (by
    unfold wp_Md_loads
    refine ⟨fun c1 => ?_, fun c1 => ⟨fun c2 => ⟨fun c3 => ?_, fun c3 => ⟨fun c4 => ?_, fun c4 => ⟨fun c5 => ?_, fun c5 => ⟨fun c6 => ⟨fun c7 => ?_, fun c7 => ⟨fun c8 => ?_, fun c8 => ⟨fun c9 => ?_, fun c9 => ⟨fun c10 => ⟨fun c11 => ?_, fun c11 => ⟨fun c12 => ?_, fun c12 => ?_⟩⟩, fun c10 => ?_⟩⟩⟩⟩, fun c6 => ?_⟩⟩⟩⟩, fun c2 => ?_⟩⟩
    · rw [c1, ld_41]
    · rw [c3, ld_40]
    · rw [c4, ld_42]
    · rw [c5, ld_52]
    · rw [c7, ld_46]
    · rw [c8, ld_47]
    · rw [c9, ld_50]
    · exact (ld_lo c11 c3 c1 c4 c2).symm
    · exact (ld_hi c12 c9 c10 c5 c6).symm
    · rw [Int32.le_iff_toInt_le] at c11 c12
      have e1 : (43 : Int32).toInt = 43 := rfl
      have e2 : (50 : Int32).toInt = 50 := rfl
      obtain ⟨m, hm, rfl⟩ := i32_between (op := op) (a := 44) (b := 50) (by omega) (by omega)
      exact (ld_1 m hm c7 c8).symm
    · rw [c10, ld_51]
    · rw [c6, ld_53]
    · rw [c2, ld_43])
theorem c_Md_stores (l : Launch) (G : cxT) (op : Int32) : Met l y_Md_stores [.code y_Md_stores b_Md_stores 1 (some .int)] ({ frames := 0, cells := 0, slots := 0, locals := 0 } : Room) (cp G [.int op] []) (va_Qi (fun r (_ : Unit) => (fun r => r = (w_of op 54 9 wStore)) r) (fun _ _ => True) (fun _ => False)) 0 0 (fun _ => False) :=
  t_Md_stores l G op (fun r => r = (w_of op 54 9 wStore)) (by
    unfold wp_Md_stores
    obtain ⟨v54, v55, v56, v57, v58, v59, v60, v61, v62⟩ := sd_v
    refine ⟨fun c1 => ?_, fun c1 => ⟨fun c2 => ⟨fun c3 => ?_, fun c3 => ⟨fun c4 => ?_, fun c4 => ⟨fun c5 => ⟨fun c6 => ?_, fun c6 => ⟨fun c7 => ⟨fun c8 => ?_, fun c8 => ⟨fun c9 => ?_, fun c9 => ?_⟩⟩, fun c7 => ?_⟩⟩, fun c5 => ?_⟩⟩⟩, fun c2 => ?_⟩⟩
    · rw [c1, v55]
    · rw [c3, v54]
    · rw [c4, v56]
    · rw [c6, v59]
    · rw [c8, v58]
    · refine (sd_no (fun m hm q => ?_)).symm
      rcases (show m = 0 ∨ m = 1 ∨ m = 2 ∨ m = 3 ∨ m = 4 ∨ m = 5 ∨ m = 6 ∨ m = 7 ∨ m = 8 by omega) with rfl | rfl | rfl | rfl | rfl | rfl | rfl | rfl | rfl
      · exact c3 (q.trans (by decide))
      · exact c1 (q.trans (by decide))
      · exact c4 (q.trans (by decide))
      · exact c2 (q.trans (by decide))
      · exact c8 (q.trans (by decide))
      · exact c6 (q.trans (by decide))
      · exact c9 (q.trans (by decide))
      · exact c7 (q.trans (by decide))
      · exact c5 (q.trans (by decide))
    · rw [c9, v60]
    · rw [c7, v61]
    · rw [c5, v62]
    · rw [c2, v57])
theorem c_Md_write (l : Launch) (G : cxT) (h : Nat) (xpg : Nat) (xli : Nat) (xty : Nat) (xen : Nat) (xtl : Nat) (xst : Nat) (xmn : Nat) (xdr : Nat) (xhe : Nat) (xrs : Nat) (xrm : Nat) (xrd : Nat) (xhr : Nat) (xki : Nat) (xin : Nat) (xpl : Nat) (xle : Nat) (xso : Nat) (xva : Nat) (xck : Nat) (xci : Nat) (xcp : Nat) (xcl : Nat) (xcs : Nat) (xcv : Nat) (vth : Int32) (vtp : Int32) (vme : Int32) (vta : Int32) (vpl : Int32) (vel : Int32) (vsg : Int32) (vus : Int32) (vrw : Int32) (vur : Int32) (vwr : Int32) (vch : Int32) (gki : Nat → Int32) (gin : Nat → Int32) (gpl : Nat → Int32) (gle : Nat → Int32) (gso : Nat → Int32) (gva : Nat → Int64) (hw9 : Int32) (mm : Int32) (to : Int64) (cn : Int64) (fr : Int32) (vl : Int64) (sz : Nat) (h0 : vp_in vwr 520) : Met l y_Md_write [.code y_Md_write b_Md_write 10 none] ({ frames := 0, cells := 0, slots := 0, locals := 0 } : Room) (cm G [.ref h, .int hw9, .int mm, .long to, .long cn, .int fr, .long vl] [(h, .inr (2, [.int vth, .int vtp, .int vme, .int vta, .int vpl, .int vel, .ref xpg, .ref xli, .ref xty, .ref xen, .ref xtl, .int vsg, .int vus, .int vrw, .int vur, .ref xst, .ref xmn, .ref xdr, .ref xhe, .ref xrs, .ref xrm, .ref xrd, .ref xhr, .int vwr, .int vch, .ref xki, .ref xin, .ref xpl, .ref xle, .ref xso, .ref xva, .ref xck, .ref xci, .ref xcp, .ref xcl, .ref xcs, .ref xcv])), (xki, .inl (G.2.1 0, 520, .inl gki)), (xin, .inl (G.2.1 0, 520, .inl gin)), (xpl, .inl (G.2.1 0, 520, .inl gpl)), (xle, .inl (G.2.1 0, 520, .inl gle)), (xso, .inl (G.2.1 0, 520, .inl gso)), (xva, .inl (G.2.1 3, 520, .inr (.inl gva)))] sz) (va_Qv (fun u => u = ((if cn = 0 then gki else upd gki vwr.toNatClampNeg hw9), (if cn = 0 then gin else upd gin vwr.toNatClampNeg mm), (if cn = 0 then gpl else upd gpl vwr.toNatClampNeg to.toInt32), (if cn = 0 then gle else upd gle vwr.toNatClampNeg cn.toInt32), (if cn = 0 then gso else upd gso vwr.toNatClampNeg fr), (if cn = 0 then gva else vp_updL gva vwr.toNatClampNeg vl), (if cn = 0 then vwr else vwr + 1))) (fun u t => va_P G.1 vwC [(h, .inr (2, [.int vth, .int vtp, .int vme, .int vta, .int vpl, .int vel, .ref xpg, .ref xli, .ref xty, .ref xen, .ref xtl, .int vsg, .int vus, .int vrw, .int vur, .ref xst, .ref xmn, .ref xdr, .ref xhe, .ref xrs, .ref xrm, .ref xrd, .ref xhr, .int u.2.2.2.2.2.2, .int vch, .ref xki, .ref xin, .ref xpl, .ref xle, .ref xso, .ref xva, .ref xck, .ref xci, .ref xcp, .ref xcl, .ref xcs, .ref xcv])), (xki, .inl (G.2.1 0, 520, .inl u.1)), (xin, .inl (G.2.1 0, 520, .inl u.2.1)), (xpl, .inl (G.2.1 0, 520, .inl u.2.2.1)), (xle, .inl (G.2.1 0, 520, .inl u.2.2.2.1)), (xso, .inl (G.2.1 0, 520, .inl u.2.2.2.2.1)), (xva, .inl (G.2.1 3, 520, .inr (.inl u.2.2.2.2.2.1)))] t.heap) (va_A [(h, .inr (2, [.int vth, .int vtp, .int vme, .int vta, .int vpl, .int vel, .ref xpg, .ref xli, .ref xty, .ref xen, .ref xtl, .int vsg, .int vus, .int vrw, .int vur, .ref xst, .ref xmn, .ref xdr, .ref xhe, .ref xrs, .ref xrm, .ref xrd, .ref xhr, .int vwr, .int vch, .ref xki, .ref xin, .ref xpl, .ref xle, .ref xso, .ref xva, .ref xck, .ref xci, .ref xcp, .ref xcl, .ref xcs, .ref xcv])), (xki, .inl (G.2.1 0, 520, .inl gki)), (xin, .inl (G.2.1 0, 520, .inl gin)), (xpl, .inl (G.2.1 0, 520, .inl gpl)), (xle, .inl (G.2.1 0, 520, .inl gle)), (xso, .inl (G.2.1 0, 520, .inl gso)), (xva, .inl (G.2.1 3, 520, .inr (.inl gva)))] sz)) 0 0 (va_A [(h, .inr (2, [.int vth, .int vtp, .int vme, .int vta, .int vpl, .int vel, .ref xpg, .ref xli, .ref xty, .ref xen, .ref xtl, .int vsg, .int vus, .int vrw, .int vur, .ref xst, .ref xmn, .ref xdr, .ref xhe, .ref xrs, .ref xrm, .ref xrd, .ref xhr, .int vwr, .int vch, .ref xki, .ref xin, .ref xpl, .ref xle, .ref xso, .ref xva, .ref xck, .ref xci, .ref xcp, .ref xcl, .ref xcs, .ref xcv])), (xki, .inl (G.2.1 0, 520, .inl gki)), (xin, .inl (G.2.1 0, 520, .inl gin)), (xpl, .inl (G.2.1 0, 520, .inl gpl)), (xle, .inl (G.2.1 0, 520, .inl gle)), (xso, .inl (G.2.1 0, 520, .inl gso)), (xva, .inl (G.2.1 3, 520, .inr (.inl gva)))] sz) :=
  t_Md_write l G h xpg xli xty xen xtl xst xmn xdr xhe xrs xrm xrd xhr xki xin xpl xle xso xva xck xci xcp xcl xcs xcv vth vtp vme vta vpl vel vsg vus vrw vur vwr vch gki gin gpl gle gso gva hw9 mm to cn fr vl sz (fun u => u = ((if cn = 0 then gki else upd gki vwr.toNatClampNeg hw9), (if cn = 0 then gin else upd gin vwr.toNatClampNeg mm), (if cn = 0 then gpl else upd gpl vwr.toNatClampNeg to.toInt32), (if cn = 0 then gle else upd gle vwr.toNatClampNeg cn.toInt32), (if cn = 0 then gso else upd gso vwr.toNatClampNeg fr), (if cn = 0 then gva else vp_updL gva vwr.toNatClampNeg vl), (if cn = 0 then vwr else vwr + 1))) (by
    unfold wp_Md_write
    refine ⟨fun c1 => ?_, fun c1 => ?_⟩
    · have c2 : ¬ cn = 0 := fun q => c1 ((lg_cmp0 cn).mpr q)
      refine ⟨h0, fun a1 e1 => ⟨h0, fun a2 e2 => ⟨h0, fun a3 e3 => ⟨h0, fun a4 e4 => ⟨h0, fun a5 e5 => ⟨h0, fun a6 e6 x ex => ?_⟩⟩⟩⟩⟩⟩
      simp only [if_neg c2]
      rw [e1, e2, e3, e4, e5, e6, ex]
    · have c2 : cn = 0 := (lg_cmp0 cn).mp c1
      simp only [if_pos c2])
theorem c_Md_change (l : Launch) (G : cxT) (h : Nat) (xpg : Nat) (xli : Nat) (xty : Nat) (xen : Nat) (xtl : Nat) (xst : Nat) (xmn : Nat) (xdr : Nat) (xhe : Nat) (xrs : Nat) (xrm : Nat) (xrd : Nat) (xhr : Nat) (xki : Nat) (xin : Nat) (xpl : Nat) (xle : Nat) (xso : Nat) (xva : Nat) (xck : Nat) (xci : Nat) (xcp : Nat) (xcl : Nat) (xcs : Nat) (xcv : Nat) (vth : Int32) (vtp : Int32) (vme : Int32) (vta : Int32) (vpl : Int32) (vel : Int32) (vsg : Int32) (vus : Int32) (vrw : Int32) (vur : Int32) (vwr : Int32) (vch : Int32) (gck : Nat → Int32) (gci : Nat → Int32) (gcp : Nat → Int32) (gcl : Nat → Int32) (gcs : Nat → Int32) (gcv : Nat → Int32) (hw9 : Int32) (mm : Int32) (to : Int64) (cn : Int64) (fr : Int32) (vl : Int32) (sz : Nat) (h0 : vp_in vch 520) : Met l y_Md_change [.code y_Md_change b_Md_change 9 none] ({ frames := 0, cells := 0, slots := 0, locals := 0 } : Room) (cm G [.ref h, .int hw9, .int mm, .long to, .long cn, .int fr, .int vl] [(h, .inr (2, [.int vth, .int vtp, .int vme, .int vta, .int vpl, .int vel, .ref xpg, .ref xli, .ref xty, .ref xen, .ref xtl, .int vsg, .int vus, .int vrw, .int vur, .ref xst, .ref xmn, .ref xdr, .ref xhe, .ref xrs, .ref xrm, .ref xrd, .ref xhr, .int vwr, .int vch, .ref xki, .ref xin, .ref xpl, .ref xle, .ref xso, .ref xva, .ref xck, .ref xci, .ref xcp, .ref xcl, .ref xcs, .ref xcv])), (xck, .inl (G.2.1 0, 520, .inl gck)), (xci, .inl (G.2.1 0, 520, .inl gci)), (xcp, .inl (G.2.1 0, 520, .inl gcp)), (xcl, .inl (G.2.1 0, 520, .inl gcl)), (xcs, .inl (G.2.1 0, 520, .inl gcs)), (xcv, .inl (G.2.1 0, 520, .inl gcv))] sz) (va_Qv (fun u => u = ((if cn = 0 then gck else upd gck vch.toNatClampNeg hw9), (if cn = 0 then gci else upd gci vch.toNatClampNeg mm), (if cn = 0 then gcp else upd gcp vch.toNatClampNeg to.toInt32), (if cn = 0 then gcl else upd gcl vch.toNatClampNeg cn.toInt32), (if cn = 0 then gcs else upd gcs vch.toNatClampNeg fr), (if cn = 0 then gcv else upd gcv vch.toNatClampNeg vl), (if cn = 0 then vch else vch + 1))) (fun u t => va_P G.1 vwC [(h, .inr (2, [.int vth, .int vtp, .int vme, .int vta, .int vpl, .int vel, .ref xpg, .ref xli, .ref xty, .ref xen, .ref xtl, .int vsg, .int vus, .int vrw, .int vur, .ref xst, .ref xmn, .ref xdr, .ref xhe, .ref xrs, .ref xrm, .ref xrd, .ref xhr, .int vwr, .int u.2.2.2.2.2.2, .ref xki, .ref xin, .ref xpl, .ref xle, .ref xso, .ref xva, .ref xck, .ref xci, .ref xcp, .ref xcl, .ref xcs, .ref xcv])), (xck, .inl (G.2.1 0, 520, .inl u.1)), (xci, .inl (G.2.1 0, 520, .inl u.2.1)), (xcp, .inl (G.2.1 0, 520, .inl u.2.2.1)), (xcl, .inl (G.2.1 0, 520, .inl u.2.2.2.1)), (xcs, .inl (G.2.1 0, 520, .inl u.2.2.2.2.1)), (xcv, .inl (G.2.1 0, 520, .inl u.2.2.2.2.2.1))] t.heap) (va_A [(h, .inr (2, [.int vth, .int vtp, .int vme, .int vta, .int vpl, .int vel, .ref xpg, .ref xli, .ref xty, .ref xen, .ref xtl, .int vsg, .int vus, .int vrw, .int vur, .ref xst, .ref xmn, .ref xdr, .ref xhe, .ref xrs, .ref xrm, .ref xrd, .ref xhr, .int vwr, .int vch, .ref xki, .ref xin, .ref xpl, .ref xle, .ref xso, .ref xva, .ref xck, .ref xci, .ref xcp, .ref xcl, .ref xcs, .ref xcv])), (xck, .inl (G.2.1 0, 520, .inl gck)), (xci, .inl (G.2.1 0, 520, .inl gci)), (xcp, .inl (G.2.1 0, 520, .inl gcp)), (xcl, .inl (G.2.1 0, 520, .inl gcl)), (xcs, .inl (G.2.1 0, 520, .inl gcs)), (xcv, .inl (G.2.1 0, 520, .inl gcv))] sz)) 0 0 (va_A [(h, .inr (2, [.int vth, .int vtp, .int vme, .int vta, .int vpl, .int vel, .ref xpg, .ref xli, .ref xty, .ref xen, .ref xtl, .int vsg, .int vus, .int vrw, .int vur, .ref xst, .ref xmn, .ref xdr, .ref xhe, .ref xrs, .ref xrm, .ref xrd, .ref xhr, .int vwr, .int vch, .ref xki, .ref xin, .ref xpl, .ref xle, .ref xso, .ref xva, .ref xck, .ref xci, .ref xcp, .ref xcl, .ref xcs, .ref xcv])), (xck, .inl (G.2.1 0, 520, .inl gck)), (xci, .inl (G.2.1 0, 520, .inl gci)), (xcp, .inl (G.2.1 0, 520, .inl gcp)), (xcl, .inl (G.2.1 0, 520, .inl gcl)), (xcs, .inl (G.2.1 0, 520, .inl gcs)), (xcv, .inl (G.2.1 0, 520, .inl gcv))] sz) :=
  t_Md_change l G h xpg xli xty xen xtl xst xmn xdr xhe xrs xrm xrd xhr xki xin xpl xle xso xva xck xci xcp xcl xcs xcv vth vtp vme vta vpl vel vsg vus vrw vur vwr vch gck gci gcp gcl gcs gcv hw9 mm to cn fr vl sz (fun u => u = ((if cn = 0 then gck else upd gck vch.toNatClampNeg hw9), (if cn = 0 then gci else upd gci vch.toNatClampNeg mm), (if cn = 0 then gcp else upd gcp vch.toNatClampNeg to.toInt32), (if cn = 0 then gcl else upd gcl vch.toNatClampNeg cn.toInt32), (if cn = 0 then gcs else upd gcs vch.toNatClampNeg fr), (if cn = 0 then gcv else upd gcv vch.toNatClampNeg vl), (if cn = 0 then vch else vch + 1))) (by
    unfold wp_Md_change
    refine ⟨fun c1 => ?_, fun c1 => ?_⟩
    · have c2 : ¬ cn = 0 := fun q => c1 ((lg_cmp0 cn).mpr q)
      refine ⟨h0, fun a1 e1 => ⟨h0, fun a2 e2 => ⟨h0, fun a3 e3 => ⟨h0, fun a4 e4 => ⟨h0, fun a5 e5 => ⟨h0, fun a6 e6 x ex => ?_⟩⟩⟩⟩⟩⟩
      simp only [if_neg c2]
      rw [e1, e2, e3, e4, e5, e6, ex]
    · have c2 : cn = 0 := (lg_cmp0 cn).mp c1
      simp only [if_pos c2])
theorem md_byteAt_loop {post : Int32 → Prop} {mm vth vtp vme vta vpl vel vsg vus vrw vur vwr vch : Int32} {gki gin gpl gle gso : Nat → Int32} {gva : Nat → Int64} {ghe : Nat → Int32} :
    ∀ (w : Nat) (a : Int32) (n : Nat), w + 1 ≤ n → w ≤ 520 → wr_ok gki gle gso w 600 → post (byA gki gin gpl gle gso gva ghe mm w a) → wp_Md_byteAt_10 post mm vth vtp vme vta vpl vel vsg vus vrw vur vwr vch gki gin gpl gle gso gva ghe n a (nI w - 1) := by
  intro w
  induction w with
  | zero =>
    intro a n hn _ _ hp
    obtain ⟨k, rfl⟩ : ∃ k, n = k + 1 := ⟨n - 1, by omega⟩
    unfold wp_Md_byteAt_10
    exact ⟨fun _ => hp, fun h => absurd (by decide) h⟩
  | succ w ih =>
    intro a n hn hw ho hp
    obtain ⟨k, rfl⟩ : ∃ k, n = k + 1 := ⟨n - 1, by omega⟩
    have e2 : nI w + (-1) = nI w - 1 := by rw [Int32.sub_eq_add_neg]
    have hin : vp_in (nI w) 520 := vp_in_nI (by omega) (by decide)
    have ec : (nI w).toNatClampNeg = w := nI_clamp (by omega)
    have next : ∀ b, post (byA gki gin gpl gle gso gva ghe mm w b) → wp_Md_byteAt_10 post mm vth vtp vme vta vpl vel vsg vus vrw vur vwr vch gki gin gpl gle gso gva ghe k b (nI w + (-1)) := fun b hb => by
      rw [e2]; exact ih b k (by omega) (by omega) (fun v hv => ho v (by omega)) hb
    rw [nI_pred]
    unfold wp_Md_byteAt_10
    unfold byA at hp
    rw [ec]
    refine ⟨fun h => absurd h (nI_pos (by omega)), fun _ => ⟨hin, fun x ex => ⟨hin, ?_⟩⟩⟩
    subst ex
    refine ⟨fun c1 y ey => ?_, fun c1 => ⟨fun c2 y ey => ?_, fun c2 => ⟨hin, fun c3 y ey => ?_, fun c3 => ⟨hin, fun c4 => ⟨hin, fun c5 => ⟨hin, fun c6 => ⟨hin, fun z ez y ey => ?_⟩, fun c6 => ⟨hin, ho w (by omega) c6 _ c2 c3, ?_⟩⟩, fun c5 => ⟨hin, ?_⟩⟩, fun c4 => ⟨hin, ?_⟩⟩⟩⟩⟩
    · rw [ey]; exact next a (by simpa [c1] using hp)
    · rw [ey]; exact next a (by simpa [c1, c2] using hp)
    · rw [ey]; exact next a (by simpa [c1, c2, c3] using hp)
    · rw [ey, ez]; exact next _ (by simpa [c1, c2, c3, c4, c5, c6] using hp)
    · simpa [c1, c2, c3, c4, c5, c6] using hp
    · simpa [c1, c2, c3, c4, c5] using hp
    · simpa [c1, c2, c3, c4] using hp

theorem c_Md_byteAt (l : Launch) (G : cxT) (h : Nat) (xpg : Nat) (xli : Nat) (xty : Nat) (xen : Nat) (xtl : Nat) (xst : Nat) (xmn : Nat) (xdr : Nat) (xhe : Nat) (xrs : Nat) (xrm : Nat) (xrd : Nat) (xhr : Nat) (xki : Nat) (xin : Nat) (xpl : Nat) (xle : Nat) (xso : Nat) (xva : Nat) (xck : Nat) (xci : Nat) (xcp : Nat) (xcl : Nat) (xcs : Nat) (xcv : Nat) (vth : Int32) (vtp : Int32) (vme : Int32) (vta : Int32) (vpl : Int32) (vel : Int32) (vsg : Int32) (vus : Int32) (vrw : Int32) (vur : Int32) (vwr : Int32) (vch : Int32) (gki : Nat → Int32) (gin : Nat → Int32) (gpl : Nat → Int32) (gle : Nat → Int32) (gso : Nat → Int32) (gva : Nat → Int64) (ghe : Nat → Int32) (mm : Int32) (ad : Int32) (h0 : ¬ vwr < 0) (h1 : vwr.toNatClampNeg ≤ 520) (h2 : wr_ok gki gle gso vwr.toNatClampNeg 600) : Met l y_Md_byteAt [.code y_Md_byteAt b_Md_byteAt 6 (some .int)] ({ frames := 0, cells := 0, slots := 0, locals := 0 } : Room) (cp G [.ref h, .int mm, .int ad] [(h, .inr (2, [.int vth, .int vtp, .int vme, .int vta, .int vpl, .int vel, .ref xpg, .ref xli, .ref xty, .ref xen, .ref xtl, .int vsg, .int vus, .int vrw, .int vur, .ref xst, .ref xmn, .ref xdr, .ref xhe, .ref xrs, .ref xrm, .ref xrd, .ref xhr, .int vwr, .int vch, .ref xki, .ref xin, .ref xpl, .ref xle, .ref xso, .ref xva, .ref xck, .ref xci, .ref xcp, .ref xcl, .ref xcs, .ref xcv])), (xki, .inl (G.2.1 0, 520, .inl gki)), (xin, .inl (G.2.1 0, 520, .inl gin)), (xpl, .inl (G.2.1 0, 520, .inl gpl)), (xle, .inl (G.2.1 0, 520, .inl gle)), (xso, .inl (G.2.1 0, 520, .inl gso)), (xva, .inl (G.2.1 3, 520, .inr (.inl gva))), (xhe, .inl (G.2.1 0, 600, .inl ghe))]) (va_Qi (fun r (_ : Unit) => (fun r => r = (byA gki gin gpl gle gso gva ghe mm vwr.toNatClampNeg ad)) r) (fun _ _ => True) (fun _ => False)) 0 0 (fun _ => False) :=
  t_Md_byteAt l G h xpg xli xty xen xtl xst xmn xdr xhe xrs xrm xrd xhr xki xin xpl xle xso xva xck xci xcp xcl xcs xcv vth vtp vme vta vpl vel vsg vus vrw vur vwr vch gki gin gpl gle gso gva ghe mm ad (fun r => r = (byA gki gin gpl gle gso gva ghe mm vwr.toNatClampNeg ad)) (by
    unfold wp_Md_byteAt
    intro x ex
    obtain ⟨c, hc, rfl⟩ := nI_of h0
    rw [nI_clamp hc] at h1 h2 ⊢
    rw [ex]
    exact ⟨_, md_byteAt_loop c ad (c + 1) (Nat.le_refl _) h1 h2 rfl⟩)
def wp_Md_entryAt_13 (post : Int32 → Prop) (vth : Int32) (vtp : Int32) (vme : Int32) (vta : Int32) (vpl : Int32) (vel : Int32) (vsg : Int32) (vus : Int32) (vrw : Int32) (vur : Int32) (vwr : Int32) (vch : Int32) (gck : Nat → Int32) (gci : Nat → Int32) (gcp : Nat → Int32) (gcl : Nat → Int32) (gcs : Nat → Int32) (gcv : Nat → Int32) (ghr : Nat → Int32) : Nat → Int32 → Int32 → Int32 → Prop
  | 0 => fun _ _ _ => False
  | n9 + 1 => fun x3 x4 x5 => ((x5 < 0 → (post (-1))) ∧ (¬ x5 < 0 → ((vp_in x5 520) ∧ (∀ x_103 : Int32, x_103 = x4 - (gcp x5.toNatClampNeg) → ((vp_in x5 520) ∧ (((¬ gci x5.toNatClampNeg = x3 → (∀ x_106 : Int32, x_106 = x5 + (-1) → (wp_Md_entryAt_13 post vth vtp vme vta vpl vel vsg vus vrw vur vwr vch gck gci gcp gcl gcs gcv ghr n9 x3 x4 x_106))) ∧ (gci x5.toNatClampNeg = x3 → (((x_103 < 0 → (∀ x_108 : Int32, x_108 = x5 + (-1) → (wp_Md_entryAt_13 post vth vtp vme vta vpl vel vsg vus vrw vur vwr vch gck gci gcp gcl gcs gcv ghr n9 x3 x4 x_108))) ∧ (¬ x_103 < 0 → ((vp_in x5 520) ∧ (((gcl x5.toNatClampNeg ≤ x_103 → (∀ x_111 : Int32, x_111 = x5 + (-1) → (wp_Md_entryAt_13 post vth vtp vme vta vpl vel vsg vus vrw vur vwr vch gck gci gcp gcl gcs gcv ghr n9 x3 x4 x_111))) ∧ (¬ gcl x5.toNatClampNeg ≤ x_103 → ((vp_in x5 520) ∧ (((¬ gck x5.toNatClampNeg = 2 → ((vp_in x5 520) ∧ (((¬ gck x5.toNatClampNeg = 4 → ((vp_in x5 520) ∧ (∀ x_117 : Int32, x_117 = (gcs x5.toNatClampNeg) + x_103 → ((vp_in x5 520) ∧ (∀ x_119 : Int32, x_119 = gcv x5.toNatClampNeg → (∀ x_120 : Int32, x_120 = x5 + (-1) → (wp_Md_entryAt_13 post vth vtp vme vta vpl vel vsg vus vrw vur vwr vch gck gci gcp gcl gcs gcv ghr n9 x_119 x_117 x_120))))))) ∧ (gck x5.toNatClampNeg = 4 → ((vp_in x5 520) ∧ ((vp_in ((gcs x5.toNatClampNeg) + x_103) 200) ∧ (post (ghr ((gcs x5.toNatClampNeg) + x_103).toNatClampNeg))))))))) ∧ (gck x5.toNatClampNeg = 2 → ((vp_in x5 520) ∧ (post (gcv x5.toNatClampNeg))))))))))))))))))))))
set_option maxHeartbeats 4000000 in
set_option maxRecDepth 100000 in
theorem l_Md_entryAt_13 {p : Program} {l : Launch} {e : Env} {s : State} {m : MethodId} {args : Array Value} {below : List Frame} {meth : Method} {c : Code} (G : cxT) (h : Nat) (xpg : Nat) (xli : Nat) (xty : Nat) (xen : Nat) (xtl : Nat) (xst : Nat) (xmn : Nat) (xdr : Nat) (xhe : Nat) (xrs : Nat) (xrm : Nat) (xrd : Nat) (xhr : Nat) (xki : Nat) (xin : Nat) (xpl : Nat) (xle : Nat) (xso : Nat) (xva : Nat) (xck : Nat) (xci : Nat) (xcp : Nat) (xcl : Nat) (xcs : Nat) (xcv : Nat) (post : Int32 → Prop) (vth : Int32) (vtp : Int32) (vme : Int32) (vta : Int32) (vpl : Int32) (vel : Int32) (vsg : Int32) (vus : Int32) (vrw : Int32) (vur : Int32) (vwr : Int32) (vch : Int32) (gck : Nat → Int32) (gci : Nat → Int32) (gcp : Nat → Int32) (gcl : Nat → Int32) (gcs : Nat → Int32) (gcv : Nat → Int32) (ghr : Nat → Int32) (hx : p.tables.exec = Jvm.exec) (hb : c.code = b_Md_entryAt) (hr : meth.sig.returnType = (some .int)) (hml : c.maxLocals = 7) (hown : s.vm.findClass R_Md = some m.cls) (hlocks : meth.locks = false) (hcx : cx G (fun _ => False) s) :
    ∀ (n9 : Nat) (x3 : Int32) (x4 : Int32) (x5 : Int32), wp_Md_entryAt_13 post vth vtp vme vta vpl vel vsg vus vrw vur vwr vch gck gci gcp gcl gcs gcv ghr n9 x3 x4 x5 → ∀ (H : Heap) (locs : List Loc), va_P G.1 vwC [(h, .inr (2, [.int vth, .int vtp, .int vme, .int vta, .int vpl, .int vel, .ref xpg, .ref xli, .ref xty, .ref xen, .ref xtl, .int vsg, .int vus, .int vrw, .int vur, .ref xst, .ref xmn, .ref xdr, .ref xhe, .ref xrs, .ref xrm, .ref xrd, .ref xhr, .int vwr, .int vch, .ref xki, .ref xin, .ref xpl, .ref xle, .ref xso, .ref xva, .ref xck, .ref xci, .ref xcp, .ref xcl, .ref xcs, .ref xcv])), (xck, .inl (G.2.1 0, 520, .inl gck)), (xci, .inl (G.2.1 0, 520, .inl gci)), (xcp, .inl (G.2.1 0, 520, .inl gcp)), (xcl, .inl (G.2.1 0, 520, .inl gcl)), (xcs, .inl (G.2.1 0, 520, .inl gcs)), (xcv, .inl (G.2.1 0, 520, .inl gcv)), (xhr, .inl (G.2.1 0, 200, .inl ghr))] H → va_S (fun _ => False) s.heap H locs → ∀ (ls : Array Slot), lv_has ls 7 [(0, .ref h), (3, .int x3), (4, .int x4), (5, .int x5)] → W p l e (headSpec [.code y_Md_entryAt b_Md_entryAt 7 (some .int)] ({ frames := 0, cells := 0, slots := 0, locals := 0 } : Room)).room s m args below meth c H locs 0 0 (MQ below (va_Qi (fun r (_ : Unit) => post r) (fun _ _ => True) (fun _ => False)) args s 0 0 (fun _ => False)) (F0 m 13 ls []) := by
  have hts := hcx.now.1 args
  have hK := hcx.now.2.1
  intro n9
  induction n9 with
  | zero =>
    intro x3 x4 x5 hw
    exact hw.elim
  | succ n9 ih =>
    intro x3 x4 x5 hw H locs hP hS ls hl
    unfold wp_Md_entryAt_13 at hw
    refine lv_iload hx hb d_Md_entryAt_13 (lv_at hl 3 rfl) ?_
    refine lv_if_lt (tgt := 130) hx hb d_Md_entryAt_15 (by decide) (fun c_101 => ?_) (fun c_101 => ?_)
    · replace hw := hw.1 c_101
      refine lv_iconst (v := (-1)) hx hb d_Md_entryAt_130 (by decide) ?_
      exact W.iret (v := (-1)) hx hb hr (fun t ht hW => ⟨⟨(-1), (), rfl, hw, trivial⟩, hS.F ht⟩) hS.2.2 d_Md_entryAt_131
    · replace hw := hw.2 c_101
      refine lv_iload hx hb d_Md_entryAt_18 (lv_at hl 2 rfl) ?_
      refine lv_aload_n hx hb d_Md_entryAt_20 rfl (lv_at hl 0 rfl) ?_
      refine va_get (D := G.1) (ci := 2) (v := .ref xcp) (C := R_Md) (T := T_Md) (N := 37) hx hb hts in_Md hown hK hP 0 rfl rfl 33 (by decide) (hts _ fl_Md_82) (fun _ h9 => h9) rfl d_Md_entryAt_21 ?_
      refine lv_iload hx hb d_Md_entryAt_24 (lv_at hl 3 rfl) ?_
      obtain ⟨h_102, hw⟩ := hw
      refine va_iald hx hb hK hP 3 0 rfl rfl h_102 d_Md_entryAt_26 ?_
      refine lv_isub hx hb d_Md_entryAt_27 ?_
      refine lv_topi (fun x_103 ex_103 => ?_)
      replace hw := hw x_103 ex_103
      refine lv_istore (lv' := [(6, .int x_103), (0, .ref h), (3, .int x3), (4, .int x4), (5, .int x5)]) hx hb d_Md_entryAt_28 hl (by decide) rfl (fun ls hl => ?_)
      refine lv_aload_n hx hb d_Md_entryAt_30 rfl (lv_at hl 1 rfl) ?_
      refine va_get (D := G.1) (ci := 2) (v := .ref xci) (C := R_Md) (T := T_Md) (N := 37) hx hb hts in_Md hown hK hP 0 rfl rfl 32 (by decide) (hts _ fl_Md_79) (fun _ h9 => h9) rfl d_Md_entryAt_31 ?_
      refine lv_iload hx hb d_Md_entryAt_34 (lv_at hl 4 rfl) ?_
      obtain ⟨h_104, hw⟩ := hw
      refine va_iald hx hb hK hP 2 0 rfl rfl h_104 d_Md_entryAt_36 ?_
      refine lv_iload_n hx hb d_Md_entryAt_37 rfl (lv_at hl 2 rfl) ?_
      refine lv_icmp_ne (tgt := 124) hx hb d_Md_entryAt_38 (by decide) (fun c_105 => ?_) (fun c_105 => ?_)
      · replace hw := hw.1 c_105
        obtain ⟨x_106, ex_106⟩ : ∃ y : Int32, y = x5 + (-1) := ⟨_, rfl⟩
        replace hw := hw x_106 ex_106
        refine lv_iinc (v := x_106) (lv' := [(5, .int x_106), (6, .int x_103), (0, .ref h), (3, .int x3), (4, .int x4)]) hx hb d_Md_entryAt_124 hl (k := 4) rfl (by rw [ex_106]; rfl) (by decide) rfl (fun ls hl => ?_)
        refine lv_goto (tgt := 13) hx hb d_Md_entryAt_127 (by decide) ?_
        exact ih x3 x4 x_106 hw _ _ hP hS ls (lv_sub hl [2, 3, 4, 0] rfl)
      · replace hw := hw.2 c_105
        refine lv_iload hx hb d_Md_entryAt_41 (lv_at hl 0 rfl) ?_
        refine lv_if_lt (tgt := 124) hx hb d_Md_entryAt_43 (by decide) (fun c_107 => ?_) (fun c_107 => ?_)
        · replace hw := hw.1 c_107
          obtain ⟨x_108, ex_108⟩ : ∃ y : Int32, y = x5 + (-1) := ⟨_, rfl⟩
          replace hw := hw x_108 ex_108
          refine lv_iinc (v := x_108) (lv' := [(5, .int x_108), (6, .int x_103), (0, .ref h), (3, .int x3), (4, .int x4)]) hx hb d_Md_entryAt_124 hl (k := 4) rfl (by rw [ex_108]; rfl) (by decide) rfl (fun ls hl => ?_)
          refine lv_goto (tgt := 13) hx hb d_Md_entryAt_127 (by decide) ?_
          exact ih x3 x4 x_108 hw _ _ hP hS ls (lv_sub hl [2, 3, 4, 0] rfl)
        · replace hw := hw.2 c_107
          refine lv_iload hx hb d_Md_entryAt_46 (lv_at hl 0 rfl) ?_
          refine lv_aload_n hx hb d_Md_entryAt_48 rfl (lv_at hl 1 rfl) ?_
          refine va_get (D := G.1) (ci := 2) (v := .ref xcl) (C := R_Md) (T := T_Md) (N := 37) hx hb hts in_Md hown hK hP 0 rfl rfl 34 (by decide) (hts _ fl_Md_85) (fun _ h9 => h9) rfl d_Md_entryAt_49 ?_
          refine lv_iload hx hb d_Md_entryAt_52 (lv_at hl 4 rfl) ?_
          obtain ⟨h_109, hw⟩ := hw
          refine va_iald hx hb hK hP 4 0 rfl rfl h_109 d_Md_entryAt_54 ?_
          refine lv_icmp_ge (tgt := 124) hx hb d_Md_entryAt_55 (by decide) (fun c_110 => ?_) (fun c_110 => ?_)
          · replace hw := hw.1 c_110
            obtain ⟨x_111, ex_111⟩ : ∃ y : Int32, y = x5 + (-1) := ⟨_, rfl⟩
            replace hw := hw x_111 ex_111
            refine lv_iinc (v := x_111) (lv' := [(5, .int x_111), (6, .int x_103), (0, .ref h), (3, .int x3), (4, .int x4)]) hx hb d_Md_entryAt_124 hl (k := 4) rfl (by rw [ex_111]; rfl) (by decide) rfl (fun ls hl => ?_)
            refine lv_goto (tgt := 13) hx hb d_Md_entryAt_127 (by decide) ?_
            exact ih x3 x4 x_111 hw _ _ hP hS ls (lv_sub hl [2, 3, 4, 0] rfl)
          · replace hw := hw.2 c_110
            refine lv_aload_n hx hb d_Md_entryAt_58 rfl (lv_at hl 1 rfl) ?_
            refine va_get (D := G.1) (ci := 2) (v := .ref xck) (C := R_Md) (T := T_Md) (N := 37) hx hb hts in_Md hown hK hP 0 rfl rfl 31 (by decide) (hts _ fl_Md_76) (fun _ h9 => h9) rfl d_Md_entryAt_59 ?_
            refine lv_iload hx hb d_Md_entryAt_62 (lv_at hl 4 rfl) ?_
            obtain ⟨h_112, hw⟩ := hw
            refine va_iald hx hb hK hP 1 0 rfl rfl h_112 d_Md_entryAt_64 ?_
            refine lv_iconst (v := 2) hx hb d_Md_entryAt_65 (by decide) ?_
            refine lv_icmp_ne (tgt := 77) hx hb d_Md_entryAt_66 (by decide) (fun c_113 => ?_) (fun c_113 => ?_)
            · replace hw := hw.1 c_113
              refine lv_aload_n hx hb d_Md_entryAt_77 rfl (lv_at hl 1 rfl) ?_
              refine va_get (D := G.1) (ci := 2) (v := .ref xck) (C := R_Md) (T := T_Md) (N := 37) hx hb hts in_Md hown hK hP 0 rfl rfl 31 (by decide) (hts _ fl_Md_76) (fun _ h9 => h9) rfl d_Md_entryAt_78 ?_
              refine lv_iload hx hb d_Md_entryAt_81 (lv_at hl 4 rfl) ?_
              obtain ⟨h_114, hw⟩ := hw
              refine va_iald hx hb hK hP 1 0 rfl rfl h_114 d_Md_entryAt_83 ?_
              refine lv_iconst (v := 4) hx hb d_Md_entryAt_84 (by decide) ?_
              refine lv_icmp_ne (tgt := 104) hx hb d_Md_entryAt_85 (by decide) (fun c_115 => ?_) (fun c_115 => ?_)
              · replace hw := hw.1 c_115
                refine lv_aload_n hx hb d_Md_entryAt_104 rfl (lv_at hl 1 rfl) ?_
                refine va_get (D := G.1) (ci := 2) (v := .ref xcs) (C := R_Md) (T := T_Md) (N := 37) hx hb hts in_Md hown hK hP 0 rfl rfl 35 (by decide) (hts _ fl_Md_88) (fun _ h9 => h9) rfl d_Md_entryAt_105 ?_
                refine lv_iload hx hb d_Md_entryAt_108 (lv_at hl 4 rfl) ?_
                obtain ⟨h_116, hw⟩ := hw
                refine va_iald hx hb hK hP 5 0 rfl rfl h_116 d_Md_entryAt_110 ?_
                refine lv_iload hx hb d_Md_entryAt_111 (lv_at hl 0 rfl) ?_
                refine lv_iadd hx hb d_Md_entryAt_113 ?_
                refine lv_topi (fun x_117 ex_117 => ?_)
                replace hw := hw x_117 ex_117
                refine lv_istore (lv' := [(4, .int x_117), (6, .int x_103), (0, .ref h), (3, .int x3), (5, .int x5)]) hx hb d_Md_entryAt_114 hl (by decide) rfl (fun ls hl => ?_)
                refine lv_aload_n hx hb d_Md_entryAt_116 rfl (lv_at hl 2 rfl) ?_
                refine va_get (D := G.1) (ci := 2) (v := .ref xcv) (C := R_Md) (T := T_Md) (N := 37) hx hb hts in_Md hown hK hP 0 rfl rfl 36 (by decide) (hts _ fl_Md_91) (fun _ h9 => h9) rfl d_Md_entryAt_117 ?_
                refine lv_iload hx hb d_Md_entryAt_120 (lv_at hl 4 rfl) ?_
                obtain ⟨h_118, hw⟩ := hw
                refine va_iald hx hb hK hP 6 0 rfl rfl h_118 d_Md_entryAt_122 ?_
                refine lv_topi (fun x_119 ex_119 => ?_)
                replace hw := hw x_119 ex_119
                refine lv_istore_n (lv' := [(3, .int x_119), (4, .int x_117), (6, .int x_103), (0, .ref h), (5, .int x5)]) hx hb d_Md_entryAt_123 rfl hl (by decide) rfl (fun ls hl => ?_)
                obtain ⟨x_120, ex_120⟩ : ∃ y : Int32, y = x5 + (-1) := ⟨_, rfl⟩
                replace hw := hw x_120 ex_120
                refine lv_iinc (v := x_120) (lv' := [(5, .int x_120), (3, .int x_119), (4, .int x_117), (6, .int x_103), (0, .ref h)]) hx hb d_Md_entryAt_124 hl (k := 4) rfl (by rw [ex_120]; rfl) (by decide) rfl (fun ls hl => ?_)
                refine lv_goto (tgt := 13) hx hb d_Md_entryAt_127 (by decide) ?_
                exact ih x_119 x_117 x_120 hw _ _ hP hS ls (lv_sub hl [4, 1, 2, 0] rfl)
              · replace hw := hw.2 c_115
                refine lv_aload_n hx hb d_Md_entryAt_88 rfl (lv_at hl 1 rfl) ?_
                refine va_get (D := G.1) (ci := 2) (v := .ref xhr) (C := R_Md) (T := T_Md) (N := 37) hx hb hts in_Md hown hK hP 0 rfl rfl 22 (by decide) (hts _ fl_Md_54) (fun _ h9 => h9) rfl d_Md_entryAt_89 ?_
                refine lv_aload_n hx hb d_Md_entryAt_92 rfl (lv_at hl 1 rfl) ?_
                refine va_get (D := G.1) (ci := 2) (v := .ref xcs) (C := R_Md) (T := T_Md) (N := 37) hx hb hts in_Md hown hK hP 0 rfl rfl 35 (by decide) (hts _ fl_Md_88) (fun _ h9 => h9) rfl d_Md_entryAt_93 ?_
                refine lv_iload hx hb d_Md_entryAt_96 (lv_at hl 4 rfl) ?_
                obtain ⟨h_121, hw⟩ := hw
                refine va_iald hx hb hK hP 5 0 rfl rfl h_121 d_Md_entryAt_98 ?_
                refine lv_iload hx hb d_Md_entryAt_99 (lv_at hl 0 rfl) ?_
                refine lv_iadd hx hb d_Md_entryAt_101 ?_
                obtain ⟨h_122, hw⟩ := hw
                refine va_iald hx hb hK hP 7 0 rfl rfl h_122 d_Md_entryAt_102 ?_
                exact W.iret (v := ghr ((gcs x5.toNatClampNeg) + x_103).toNatClampNeg) hx hb hr (fun t ht hW => ⟨⟨ghr ((gcs x5.toNatClampNeg) + x_103).toNatClampNeg, (), rfl, hw, trivial⟩, hS.F ht⟩) hS.2.2 d_Md_entryAt_103
            · replace hw := hw.2 c_113
              refine lv_aload_n hx hb d_Md_entryAt_69 rfl (lv_at hl 1 rfl) ?_
              refine va_get (D := G.1) (ci := 2) (v := .ref xcv) (C := R_Md) (T := T_Md) (N := 37) hx hb hts in_Md hown hK hP 0 rfl rfl 36 (by decide) (hts _ fl_Md_91) (fun _ h9 => h9) rfl d_Md_entryAt_70 ?_
              refine lv_iload hx hb d_Md_entryAt_73 (lv_at hl 4 rfl) ?_
              obtain ⟨h_123, hw⟩ := hw
              refine va_iald hx hb hK hP 6 0 rfl rfl h_123 d_Md_entryAt_75 ?_
              exact W.iret (v := gcv x5.toNatClampNeg) hx hb hr (fun t ht hW => ⟨⟨gcv x5.toNatClampNeg, (), rfl, hw, trivial⟩, hS.F ht⟩) hS.2.2 d_Md_entryAt_76
def wp_Md_entryAt (post : Int32 → Prop) (vth : Int32) (vtp : Int32) (vme : Int32) (vta : Int32) (vpl : Int32) (vel : Int32) (vsg : Int32) (vus : Int32) (vrw : Int32) (vur : Int32) (vwr : Int32) (vch : Int32) (gck : Nat → Int32) (gci : Nat → Int32) (gcp : Nat → Int32) (gcl : Nat → Int32) (gcs : Nat → Int32) (gcv : Nat → Int32) (ghr : Nat → Int32) (mm : Int32) (ad : Int32) : Prop := ∀ x_1 : Int32, x_1 = vch - 1 → (∃ n9 : Nat, wp_Md_entryAt_13 post vth vtp vme vta vpl vel vsg vus vrw vur vwr vch gck gci gcp gcl gcs gcv ghr n9 mm ad x_1)
set_option maxHeartbeats 4000000 in
set_option maxRecDepth 100000 in
theorem t_Md_entryAt (l : Launch) (G : cxT) (h : Nat) (xpg : Nat) (xli : Nat) (xty : Nat) (xen : Nat) (xtl : Nat) (xst : Nat) (xmn : Nat) (xdr : Nat) (xhe : Nat) (xrs : Nat) (xrm : Nat) (xrd : Nat) (xhr : Nat) (xki : Nat) (xin : Nat) (xpl : Nat) (xle : Nat) (xso : Nat) (xva : Nat) (xck : Nat) (xci : Nat) (xcp : Nat) (xcl : Nat) (xcs : Nat) (xcv : Nat) (vth : Int32) (vtp : Int32) (vme : Int32) (vta : Int32) (vpl : Int32) (vel : Int32) (vsg : Int32) (vus : Int32) (vrw : Int32) (vur : Int32) (vwr : Int32) (vch : Int32) (gck : Nat → Int32) (gci : Nat → Int32) (gcp : Nat → Int32) (gcl : Nat → Int32) (gcs : Nat → Int32) (gcv : Nat → Int32) (ghr : Nat → Int32) (mm : Int32) (ad : Int32) (post : Int32 → Prop) (hw : wp_Md_entryAt post vth vtp vme vta vpl vel vsg vus vrw vur vwr vch gck gci gcp gcl gcs gcv ghr mm ad) : Met l y_Md_entryAt [.code y_Md_entryAt b_Md_entryAt 7 (some .int)] ({ frames := 0, cells := 0, slots := 0, locals := 0 } : Room) (cp G [.ref h, .int mm, .int ad] [(h, .inr (2, [.int vth, .int vtp, .int vme, .int vta, .int vpl, .int vel, .ref xpg, .ref xli, .ref xty, .ref xen, .ref xtl, .int vsg, .int vus, .int vrw, .int vur, .ref xst, .ref xmn, .ref xdr, .ref xhe, .ref xrs, .ref xrm, .ref xrd, .ref xhr, .int vwr, .int vch, .ref xki, .ref xin, .ref xpl, .ref xle, .ref xso, .ref xva, .ref xck, .ref xci, .ref xcp, .ref xcl, .ref xcs, .ref xcv])), (xck, .inl (G.2.1 0, 520, .inl gck)), (xci, .inl (G.2.1 0, 520, .inl gci)), (xcp, .inl (G.2.1 0, 520, .inl gcp)), (xcl, .inl (G.2.1 0, 520, .inl gcl)), (xcs, .inl (G.2.1 0, 520, .inl gcs)), (xcv, .inl (G.2.1 0, 520, .inl gcv)), (xhr, .inl (G.2.1 0, 200, .inl ghr))]) (va_Qi (fun r (_ : Unit) => post r) (fun _ _ => True) (fun _ => False)) 0 0 (fun _ => False) := by
  refine Met.ofW (cc := b_Md_entryAt) (maxL := 7) (ret := (some .int)) (by decide +kernel) rfl ?_
  intro p e s m args below meth c s₁ B hml hv
  obtain ⟨rfl, hcx, hP⟩ := hv
  have hx := B.exec
  have hb := B.bytes
  have hr := B.returns
  have hlocks := B.notSynchronized
  have hown : s.vm.findClass R_Md = some m.cls := findClass_of_methodNamed B.named
  have hS : va_S (fun _ => False) s.heap s.heap [] := va_S.rf
  have hts := hcx.now.1 [.ref h, .int mm, .int ad].toArray
  have hK := hcx.now.2.1
  have hl := lv_entry ([.ref h, .int mm, .int ad]) (n := 7) (Nat.le_of_ble_eq_true rfl)
  rw [lg_entry_eq]
  generalize (lg_sl ([.ref h, .int mm, .int ad]) ++ List.replicate (7 - (lg_sl ([.ref h, .int mm, .int ad])).length) Slot.unset).toArray = ls at hl ⊢
  have hl : lv_has ls 7 [(0, .ref h), (1, .int mm), (2, .int ad)] := hl
  unfold wp_Md_entryAt at hw
  refine lv_iload_n hx hb d_Md_entryAt_0 rfl (lv_at hl 1 rfl) ?_
  refine lv_istore_n (lv' := [(3, .int mm), (0, .ref h), (1, .int mm), (2, .int ad)]) hx hb d_Md_entryAt_1 rfl hl (by decide) rfl (fun ls hl => ?_)
  refine lv_iload_n hx hb d_Md_entryAt_2 rfl (lv_at hl 3 rfl) ?_
  refine lv_istore (lv' := [(4, .int ad), (3, .int mm), (0, .ref h), (1, .int mm), (2, .int ad)]) hx hb d_Md_entryAt_3 hl (by decide) rfl (fun ls hl => ?_)
  refine lv_aload_n hx hb d_Md_entryAt_5 rfl (lv_at hl 2 rfl) ?_
  refine va_get (D := G.1) (ci := 2) (v := .int vch) (C := R_Md) (T := T_Md) (N := 37) hx hb hts in_Md hown hK hP 0 rfl rfl 24 (by decide) (hts _ fl_Md_113) (fun _ h9 => h9) rfl d_Md_entryAt_6 ?_
  refine lv_iconst (v := 1) hx hb d_Md_entryAt_9 (by decide) ?_
  refine lv_isub hx hb d_Md_entryAt_10 ?_
  refine lv_topi (fun x_1 ex_1 => ?_)
  replace hw := hw x_1 ex_1
  refine lv_istore (lv' := [(5, .int x_1), (4, .int ad), (3, .int mm), (0, .ref h), (1, .int mm), (2, .int ad)]) hx hb d_Md_entryAt_11 hl (by decide) rfl (fun ls hl => ?_)
  obtain ⟨n9, hw⟩ := hw
  exact l_Md_entryAt_13 G h xpg xli xty xen xtl xst xmn xdr xhe xrs xrm xrd xhr xki xin xpl xle xso xva xck xci xcp xcl xcs xcv post vth vtp vme vta vpl vel vsg vus vrw vur vwr vch gck gci gcp gcl gcs gcv ghr hx hb hr hml hown hlocks hcx n9 mm ad x_1 hw _ _ hP hS ls (lv_sub hl [3, 2, 1, 0] rfl)
theorem md_entryAt_loop {post : Int32 → Prop} {vth vtp vme vta vpl vel vsg vus vrw vur vwr vch : Int32} {gck gci gcp gcl gcs gcv ghr : Nat → Int32} :
    ∀ (w : Nat) (t a : Int32) (n : Nat), w + 1 ≤ n → w ≤ 520 → wr_ok gck gcl gcs w 200 → post (enA gck gci gcp gcl gcs gcv ghr w t a) → wp_Md_entryAt_13 post vth vtp vme vta vpl vel vsg vus vrw vur vwr vch gck gci gcp gcl gcs gcv ghr n t a (nI w - 1) := by
  intro w
  induction w with
  | zero =>
    intro t a n hn _ _ hp
    obtain ⟨k, rfl⟩ : ∃ k, n = k + 1 := ⟨n - 1, by omega⟩
    unfold wp_Md_entryAt_13
    exact ⟨fun _ => hp, fun h => absurd (by decide) h⟩
  | succ w ih =>
    intro t a n hn hw ho hp
    obtain ⟨k, rfl⟩ : ∃ k, n = k + 1 := ⟨n - 1, by omega⟩
    have e2 : nI w + (-1) = nI w - 1 := by rw [Int32.sub_eq_add_neg]
    have hin : vp_in (nI w) 520 := vp_in_nI (by omega) (by decide)
    have ec : (nI w).toNatClampNeg = w := nI_clamp (by omega)
    have next : ∀ t b, post (enA gck gci gcp gcl gcs gcv ghr w t b) → wp_Md_entryAt_13 post vth vtp vme vta vpl vel vsg vus vrw vur vwr vch gck gci gcp gcl gcs gcv ghr k t b (nI w + (-1)) := fun t b hb => by
      rw [e2]; exact ih t b k (by omega) (by omega) (fun v hv => ho v (by omega)) hb
    rw [nI_pred]
    unfold wp_Md_entryAt_13
    unfold enA at hp
    rw [ec]
    refine ⟨fun h => absurd h (nI_pos (by omega)), fun _ => ⟨hin, fun x ex => ⟨hin, ?_⟩⟩⟩
    subst ex
    refine ⟨fun c1 y ey => ?_, fun c1 => ⟨fun c2 y ey => ?_, fun c2 => ⟨hin, fun c3 y ey => ?_, fun c3 => ⟨hin, fun c5 => ⟨hin, fun c6 => ⟨hin, fun z ez => ⟨hin, fun z2 ez2 y ey => ?_⟩⟩, fun c6 => ⟨hin, ho w (by omega) c6 _ c2 c3, ?_⟩⟩, fun c5 => ⟨hin, ?_⟩⟩⟩⟩⟩
    · rw [ey]; exact next t a (by simpa [c1] using hp)
    · rw [ey]; exact next t a (by simpa [c1, c2] using hp)
    · rw [ey]; exact next t a (by simpa [c1, c2, c3] using hp)
    · rw [ey, ez, ez2]; exact next _ _ (by simpa [c1, c2, c3, c5, c6] using hp)
    · simpa [c1, c2, c3, c5, c6] using hp
    · simpa [c1, c2, c3, c5] using hp

theorem c_Md_entryAt (l : Launch) (G : cxT) (h : Nat) (xpg : Nat) (xli : Nat) (xty : Nat) (xen : Nat) (xtl : Nat) (xst : Nat) (xmn : Nat) (xdr : Nat) (xhe : Nat) (xrs : Nat) (xrm : Nat) (xrd : Nat) (xhr : Nat) (xki : Nat) (xin : Nat) (xpl : Nat) (xle : Nat) (xso : Nat) (xva : Nat) (xck : Nat) (xci : Nat) (xcp : Nat) (xcl : Nat) (xcs : Nat) (xcv : Nat) (vth : Int32) (vtp : Int32) (vme : Int32) (vta : Int32) (vpl : Int32) (vel : Int32) (vsg : Int32) (vus : Int32) (vrw : Int32) (vur : Int32) (vwr : Int32) (vch : Int32) (gck : Nat → Int32) (gci : Nat → Int32) (gcp : Nat → Int32) (gcl : Nat → Int32) (gcs : Nat → Int32) (gcv : Nat → Int32) (ghr : Nat → Int32) (mm : Int32) (ad : Int32) (h0 : ¬ vch < 0) (h1 : vch.toNatClampNeg ≤ 520) (h2 : wr_ok gck gcl gcs vch.toNatClampNeg 200) : Met l y_Md_entryAt [.code y_Md_entryAt b_Md_entryAt 7 (some .int)] ({ frames := 0, cells := 0, slots := 0, locals := 0 } : Room) (cp G [.ref h, .int mm, .int ad] [(h, .inr (2, [.int vth, .int vtp, .int vme, .int vta, .int vpl, .int vel, .ref xpg, .ref xli, .ref xty, .ref xen, .ref xtl, .int vsg, .int vus, .int vrw, .int vur, .ref xst, .ref xmn, .ref xdr, .ref xhe, .ref xrs, .ref xrm, .ref xrd, .ref xhr, .int vwr, .int vch, .ref xki, .ref xin, .ref xpl, .ref xle, .ref xso, .ref xva, .ref xck, .ref xci, .ref xcp, .ref xcl, .ref xcs, .ref xcv])), (xck, .inl (G.2.1 0, 520, .inl gck)), (xci, .inl (G.2.1 0, 520, .inl gci)), (xcp, .inl (G.2.1 0, 520, .inl gcp)), (xcl, .inl (G.2.1 0, 520, .inl gcl)), (xcs, .inl (G.2.1 0, 520, .inl gcs)), (xcv, .inl (G.2.1 0, 520, .inl gcv)), (xhr, .inl (G.2.1 0, 200, .inl ghr))]) (va_Qi (fun r (_ : Unit) => (fun r => r = (enA gck gci gcp gcl gcs gcv ghr vch.toNatClampNeg mm ad)) r) (fun _ _ => True) (fun _ => False)) 0 0 (fun _ => False) :=
  t_Md_entryAt l G h xpg xli xty xen xtl xst xmn xdr xhe xrs xrm xrd xhr xki xin xpl xle xso xva xck xci xcp xcl xcs xcv vth vtp vme vta vpl vel vsg vus vrw vur vwr vch gck gci gcp gcl gcs gcv ghr mm ad (fun r => r = (enA gck gci gcp gcl gcs gcv ghr vch.toNatClampNeg mm ad)) (by
    unfold wp_Md_entryAt
    intro x ex
    obtain ⟨c, hc, rfl⟩ := nI_of h0
    rw [nI_clamp hc] at h1 h2 ⊢
    rw [ex]
    exact ⟨_, md_entryAt_loop c mm ad (c + 1) (Nat.le_refl _) h1 h2 rfl⟩)
