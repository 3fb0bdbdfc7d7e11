theorem q_12 : ∀ n, n < 512 → ∀ (trp : Int32) (mC : Int32) (mU : Int32) (mS : Nat → Int32) (mL : Nat → Int32) (mD : Nat → Int32) (tC : Int32) (tU : Int32) (tS : Nat → Int32) (tL : Nat → Int32) (tD : Nat → Int32) (bC : Int32) (bU : Int32) (bS : Nat → Int32) (bL : Nat → Int32) (bD : Nat → Int32) (rC : Int32) (rU : Int32) (rS : Nat → Int32) (rL : Nat → Int32) (rD : Nat → Int32) (fml : Nat → Int32) (fmb : Nat → Int32) (ftl : Nat → Int32) (ftt : Nat → Int32) (fte : Nat → Int32) (fsb : Nat → Int32) (fsr : Nat → Int32) (vth : Int32) (vtp : Int32) (vme : Int32) (vta : Int32) (vpl : Int32) (vel : Int32) (vsg : Int32) (vus : Int32) (vrw : Int32) (vur : Int32) (vwr : Int32) (vch : Int32) (gpg : Nat → Int32) (gli : Nat → Int32) (gty : Nat → Int32) (gen : Nat → Int32) (gtl : Nat → Int32) (gst : Nat → Int32) (gmn : Nat → Int32) (gdr : Nat → Int32) (ghe : Nat → Int32) (grs : Nat → Int32) (grm : Nat → Int32) (grd : Nat → Int32) (ghr : Nat → Int32) (gki : Nat → Int32) (gin : Nat → Int32) (gpl : Nat → Int32) (gle : Nat → Int32) (gso : Nat → Int32) (gva : Nat → Int64) (gck : Nat → Int32) (gci : Nat → Int32) (gcp : Nat → Int32) (gcl : Nat → Int32) (gcs : Nat → Int32) (gcv : Nat → Int32) (fo : Nat → Int64) (y1 y2 y3 : Int32), Inv n trp mC mU mS mL mD tC tU tS tL tD bC bU bS bL bD rC rU rS rL rD fml fmb ftl ftt fte fsb fsr vth vtp vme vta vpl vel vsg vus vrw vur vwr vch gpg gli gty gen gtl gst gmn gdr ghe grs grm grd ghr gki gin gpl gle gso gva gck gci gcp gcl gcs gcv fo → wq_12 (Inv (n + 1)) trp mC mU mS mL mD tC tU tS tL tD bC bU bS bL bD rC rU rS rL rD fml fmb ftl ftt fte fsb fsr vth vtp vme vta vpl vel vsg vus vrw vur vwr vch gpg gli gty gen gtl gst gmn gdr ghe grs grm grd ghr gki gin gpl gle gso gva gck gci gcp gcl gcs gcv fo y1 y2 y3 := by
  intro n hn trp mC mU mS mL mD tC tU tS tL tD bC bU bS bL bD rC rU rS rL rD fml fmb ftl ftt fte fsb fsr vth vtp vme vta vpl vel vsg vus vrw vur vwr vch gpg gli gty gen gtl gst gmn gdr ghe grs grm grd ghr gki gin gpl gle gso gva gck gci gcp gcl gcs gcv fo y1 y2 y3 hI
  obtain ⟨rfl, hM, ⟨C, c, T, hT⟩, hB, hR, hF, rfl⟩ := hI
  have hT1 := gT.mono ⟨C, c, T, hT⟩
  replace hM := hM.mono
  obtain ⟨rfl, rfl, hC, hs, rfl, rfl, rfl, hz, hS, rfl, rfl, rfl, rfl, hc, hw, hrow, hout⟩ := id hT
  have e0 : ((nI C).toInt ≤ 6) = True := eq_true (by rw [nI_toInt (by omega)]; omega)
  have e8 : vp_in (nI c) 520 = True := eq_true (vp_in_nI (by omega) (by decide))
  simp only [wq_12, wp_Pm_growTable, wp_Md_growTable]
  have eL := left_t hs
  obtain ⟨d, hd, rfl⟩ := un_ex y2
  rcases has_cases (C := C) (by omega) y1 with ⟨hk, -⟩ | ⟨k, hk, rfl⟩
  · simp only [hk, not_true_eq_false, not_false_eq_true, true_implies, false_implies, implies_true, and_true, true_and, forall_eq, if_true, if_false, true_or, or_true, eui, eiu, nb0, nb1, z10, z20, z01, z02, z12, z21, lt00, lt04, lt05, ps10, ps14, ps15]
    exact ⟨rfl, hM, hT1, hB, hR, hF, rfl⟩
  · have hp := psum_le (L := T) hk
    have e1 := has_yes hk (show C < 2 ^ 31 by omega)
    have e2 : ly_ln (nI C) (nI k) (fun k => nI (T k)) = nI (T k) := ln_yes hk (by omega) _
    have e3 : ly_st (nI C) (nI k) tS = nI (psum T k) := by rw [st_yes hk (by omega), hS k hk]
    have e4 : vp_in (nI k) 6 = True := eq_true (vp_in_nI (by omega) (by decide))
    have e5 : (nI k).toNatClampNeg = k := nI_clamp (by omega)
    have e6 : (nI (T k)).toInt64 = lN (T k) := nI_l (by omega)
    by_cases rr : y3 < (-1)
    · simp only [e0, e1, e2, e3, e4, e5, e6, e8, ref_0 rr, rr, not_true_eq_false, not_false_eq_true, true_implies, false_implies, implies_true, and_true, true_and, forall_eq, if_true, if_false, true_or, or_true, eui, eiu, nb0, nb1, z10, z20, z01, z02, z12, z21, lt00, lt04, lt05, ps10, ps14, ps15]
      exact ⟨rfl, hM, hT1, hB, hR, hF, rfl⟩
    by_cases a1 : 0 < lg_cmp (lN (T k) + u32 (nI d)) (u32 (ftl k))
    · simp only [e0, e1, e2, e3, e4, e5, e6, e8, ref_1 rr, rr, a1, not_true_eq_false, not_false_eq_true, true_implies, false_implies, implies_true, and_true, true_and, forall_eq, if_true, if_false, true_or, or_true, eui, eiu, nb0, nb1, z10, z20, z01, z02, z12, z21, lt00, lt04, lt05, ps10, ps14, ps15]
      exact ⟨rfl, hM, hT1, hB, hR, hF, rfl⟩
    by_cases a2 : lg_cmp (u32 (nI d)) (nI (200 - psum T C)).toInt64 ≤ 0
    · have hd2 : d ≤ 200 - psum T C := by
        rw [u32_un, un_nI hd, nI_l (by omega), cmp_le (by omega) (by omega)] at a2
        exact a2
      have b2 : ly_en (nI C) (nI (psum T C)) (nI k) tS (fun k => nI (T k)) = nI (psum T k + T k) := by
        rw [en_yes hk (by omega), hS k hk, nI_add]
      have b3 : nI (psum T C) - nI (psum T k + T k) = nI (psum T C - (psum T k + T k)) := pk_sub hp
      generalize hE : psum T k + T k = E at *
      have c1 : (nI E < 0) = False := eq_false (nI_pos (by omega))
      have c2 : (nI (E + d) < 0) = False := eq_false (nI_pos (by omega))
      have c3 : (nI (psum T C - E) < 0) = False := eq_false (nI_pos (by omega))
      have c4 : (nI E).toNatClampNeg = E := nI_clamp (by omega)
      have c5 : (nI (E + d)).toNatClampNeg = E + d := nI_clamp (by omega)
      have c6 : (nI (psum T C - E)).toNatClampNeg = psum T C - E := nI_clamp (by omega)
      have c7 : (E + (psum T C - E) ≤ 200) = True := eq_true (by omega)
      have c8 : (E + d + (psum T C - E) ≤ 200) = True := eq_true (by omega)
      have c9 : (nI E ≤ nI (E + d)) = True := eq_true (nI_le (by omega) (by omega))
      have c10 : (nI (E + d) ≤ nI 200) = True := eq_true (nI_le (by omega) (by decide))
      have c11 : (200 < 2147483648) = True := eq_true (by decide)
      have c12 : (6 < 2147483648) = True := eq_true (by decide)
      have c14 : (nI C).toNatClampNeg = C := nI_clamp (by omega)
      have c15 : nI E + nI d = nI (E + d) := nI_add _ _
      have c16 : ∀ v : Int32, (fits .int (.int v) = true) = True := fun _ => eq_true rfl
      have e9 : (lN (T k)).toInt32 = nI (T k) := lN_i _
      simp only [e0, e1, e2, e3, e4, e5, e6, e8, ref_1 rr, rr, a1, a2, eL, b2, b3, c15, c1, c2, c3, c4, c5, c6, c7, c8, c9, c10, c11, c12, c14, c16, e9, not_true_eq_false, not_false_eq_true, true_implies, false_implies, implies_true, and_true, true_and, forall_eq, if_true, if_false, true_or, or_true, eui, eiu, nb0, nb1, z10, z20, z01, z02, z12, z21, lt00, lt04, lt05, ps10, ps14, ps15]
      subst hE
      exact ⟨rfl, hM, gT_grow hT hn hk hd2 rfl rfl rfl (lg_l2i_i2l _) y3 0, hB, hR, hF, rfl⟩
    · simp only [e0, e1, e2, e3, e4, e5, e6, e8, ref_1 rr, rr, a1, a2, eL, not_true_eq_false, not_false_eq_true, true_implies, false_implies, implies_true, and_true, true_and, forall_eq, if_true, if_false, true_or, or_true, eui, eiu, nb0, nb1, z10, z20, z01, z02, z12, z21, lt00, lt04, lt05, ps10, ps14, ps15]
      exact ⟨rfl, hM, hT1, hB, hR, hF, rfl⟩
theorem q_14 : ∀ n, n < 512 → ∀ (trp : Int32) (mC : Int32) (mU : Int32) (mS : Nat → Int32) (mL : Nat → Int32) (mD : Nat → Int32) (tC : Int32) (tU : Int32) (tS : Nat → Int32) (tL : Nat → Int32) (tD : Nat → Int32) (bC : Int32) (bU : Int32) (bS : Nat → Int32) (bL : Nat → Int32) (bD : Nat → Int32) (rC : Int32) (rU : Int32) (rS : Nat → Int32) (rL : Nat → Int32) (rD : Nat → Int32) (fml : Nat → Int32) (fmb : Nat → Int32) (ftl : Nat → Int32) (ftt : Nat → Int32) (fte : Nat → Int32) (fsb : Nat → Int32) (fsr : Nat → Int32) (vth : Int32) (vtp : Int32) (vme : Int32) (vta : Int32) (vpl : Int32) (vel : Int32) (vsg : Int32) (vus : Int32) (vrw : Int32) (vur : Int32) (vwr : Int32) (vch : Int32) (gpg : Nat → Int32) (gli : Nat → Int32) (gty : Nat → Int32) (gen : Nat → Int32) (gtl : Nat → Int32) (gst : Nat → Int32) (gmn : Nat → Int32) (gdr : Nat → Int32) (ghe : Nat → Int32) (grs : Nat → Int32) (grm : Nat → Int32) (grd : Nat → Int32) (ghr : Nat → Int32) (gki : Nat → Int32) (gin : Nat → Int32) (gpl : Nat → Int32) (gle : Nat → Int32) (gso : Nat → Int32) (gva : Nat → Int64) (gck : Nat → Int32) (gci : Nat → Int32) (gcp : Nat → Int32) (gcl : Nat → Int32) (gcs : Nat → Int32) (gcv : Nat → Int32) (fo : Nat → Int64) (y1 y2 y3 y4 y5 : Int32), Inv n trp mC mU mS mL mD tC tU tS tL tD bC bU bS bL bD rC rU rS rL rD fml fmb ftl ftt fte fsb fsr vth vtp vme vta vpl vel vsg vus vrw vur vwr vch gpg gli gty gen gtl gst gmn gdr ghe grs grm grd ghr gki gin gpl gle gso gva gck gci gcp gcl gcs gcv fo → wq_14 (Inv (n + 1)) trp mC mU mS mL mD tC tU tS tL tD bC bU bS bL bD rC rU rS rL rD fml fmb ftl ftt fte fsb fsr vth vtp vme vta vpl vel vsg vus vrw vur vwr vch gpg gli gty gen gtl gst gmn gdr ghe grs grm grd ghr gki gin gpl gle gso gva gck gci gcp gcl gcs gcv fo y1 y2 y3 y4 y5 := by
  intro n hn trp mC mU mS mL mD tC tU tS tL tD bC bU bS bL bD rC rU rS rL rD fml fmb ftl ftt fte fsb fsr vth vtp vme vta vpl vel vsg vus vrw vur vwr vch gpg gli gty gen gtl gst gmn gdr ghe grs grm grd ghr gki gin gpl gle gso gva gck gci gcp gcl gcs gcv fo y1 y2 y3 y4 y5 hI
  obtain ⟨rfl, hM, ⟨C, c, T, hT⟩, hB, hR, hF, rfl⟩ := hI
  have hT1 := gT.mono ⟨C, c, T, hT⟩
  replace hM := hM.mono
  obtain ⟨rfl, rfl, hC, hs, rfl, rfl, rfl, hz, hS, rfl, rfl, rfl, rfl, hc, hw, hrow, hout⟩ := id hT
  have e0 : ((nI C).toInt ≤ 6) = True := eq_true (by rw [nI_toInt (by omega)]; omega)
  have e8 : vp_in (nI c) 520 = True := eq_true (vp_in_nI (by omega) (by decide))
  simp only [wq_14, wp_Lw_copyTable, wp_Pm_copyTable, wp_Md_copyTable, wp_Md_thrown]
  obtain ⟨t, ht, rfl⟩ := un_ex y3
  obtain ⟨f, hf, rfl⟩ := un_ex y4
  obtain ⟨m, hm, rfl⟩ := un_ex y5
  rcases has_cases (C := C) (by omega) y1 with ⟨hk, -⟩ | ⟨k, hk, rfl⟩
  · simp only [hk, not_true_eq_false, not_false_eq_true, true_implies, false_implies, implies_true, and_true, true_and, forall_eq, if_true, if_false, true_or, or_true, eui, eiu, nb0, nb1, z10, z20, z01, z02, z12, z21, lt00, lt04, lt05, ps10, ps14, ps15]
    exact ⟨rfl, hM, hT1, hB, hR, hF, rfl⟩
  · have hp := psum_le (L := T) hk
    have e1 := has_yes hk (show C < 2 ^ 31 by omega)
    have e2 : ly_ln (nI C) (nI k) (fun k => nI (T k)) = nI (T k) := ln_yes hk (by omega) _
    have e3 : ly_st (nI C) (nI k) tS = nI (psum T k) := by rw [st_yes hk (by omega), hS k hk]
    have e4 : vp_in (nI k) 6 = True := eq_true (vp_in_nI (by omega) (by decide))
    have e5 : (nI k).toNatClampNeg = k := nI_clamp (by omega)
    have e6 : (nI (T k)).toInt64 = lN (T k) := nI_l (by omega)
    rcases has_cases (C := C) (by omega) y2 with ⟨hl, -⟩ | ⟨l, hl, rfl⟩
    · simp only [e0, e1, e2, e3, e4, e5, e6, e8, hl, not_true_eq_false, not_false_eq_true, true_implies, false_implies, implies_true, and_true, true_and, forall_eq, if_true, if_false, true_or, or_true, eui, eiu, nb0, nb1, z10, z20, z01, z02, z12, z21, lt00, lt04, lt05, ps10, ps14, ps15]
      exact ⟨rfl, hM, hT1, hB, hR, hF, rfl⟩
    have hp2 := psum_le (L := T) hl
    have l1 := has_yes hl (show C < 2 ^ 31 by omega)
    have l2 : ly_ln (nI C) (nI l) (fun k => nI (T k)) = nI (T l) := ln_yes hl (by omega) _
    have l3 : ly_st (nI C) (nI l) tS = nI (psum T l) := by rw [st_yes hl (by omega), hS l hl]
    have l4 : vp_in (nI l) 6 = True := eq_true (vp_in_nI (by omega) (by decide))
    have l5 : (nI l).toNatClampNeg = l := nI_clamp (by omega)
    have l6 : (nI (T l)).toInt64 = lN (T l) := nI_l (by omega)
    by_cases ty : ftt k = ftt l
    · have y0 := eq_true ty
      by_cases qF : f + m ≤ T l
      · have a1 := fl2T hf hm (show T l < 2 ^ 31 by omega) qF
        have a2 := fg2F hf hm (show T l < 2 ^ 31 by omega) qF
        by_cases qT : t + m ≤ T k
        · have b1 := fl2T ht hm (show T k < 2 ^ 31 by omega) qT
          have b2 := fg2F ht hm (show T k < 2 ^ 31 by omega) qT
          have c1 : (nI (psum T l + f) < 0) = False := eq_false (nI_pos (by omega))
          have c2 : (nI (psum T k + t) < 0) = False := eq_false (nI_pos (by omega))
          have c3 : (nI m < 0) = False := eq_false (nI_pos (by omega))
          have c4 : (nI (psum T l + f)).toNatClampNeg = psum T l + f := nI_clamp (by omega)
          have c5 : (nI (psum T k + t)).toNatClampNeg = psum T k + t := nI_clamp (by omega)
          have c6 : (nI m).toNatClampNeg = m := nI_clamp (by omega)
          have c7 : (psum T l + f + m ≤ 200) = True := eq_true (by omega)
          have c8 : (psum T k + t + m ≤ 200) = True := eq_true (by omega)
          have c16 : ∀ v : Int32, (fits .int (.int v) = true) = True := fun _ => eq_true rfl
          simp only [e0, e1, e2, e3, e4, e5, e6, e8, l1, l2, l3, l4, l5, l6, y0, a1, a2, b1, b2, u32_i, nI_add, c1, c2, c3, c4, c5, c6, c7, c8, c16, not_true_eq_false, not_false_eq_true, true_implies, false_implies, implies_true, and_true, true_and, forall_eq, if_true, if_false, true_or, or_true, eui, eiu, nb0, nb1, z10, z20, z01, z02, z12, z21, lt00, lt04, lt05, ps10, ps14, ps15]
          refine ⟨rfl, hM, gT_wr hT hn hk qT rfl rfl (lg_l2i_i2l _) (lg_l2i_i2l _) 3 (nI f) (nI l) (fun i hi => if_neg hi) (fun i hi => ?_) (fun q => absurd q (by decide)), hB, hR, hF, rfl⟩
          rw [if_neg (by decide), if_neg (by decide), nI_add, va_cpy_in hi, Nat.add_assoc]
          exact hrow l hl (f + i) (by omega)
        · have b1 := fl2F ht hm (show T k < 2 ^ 31 by omega) qT
          have b2 := fg2T ht hm (show T k < 2 ^ 31 by omega) qT
          simp only [e0, e1, e2, e3, e4, e5, e6, e8, l1, l2, l3, l4, l5, l6, y0, a1, a2, b1, b2, not_true_eq_false, not_false_eq_true, true_implies, false_implies, implies_true, and_true, true_and, forall_eq, if_true, if_false, true_or, or_true, eui, eiu, nb0, nb1, z10, z20, z01, z02, z12, z21, lt00, lt04, lt05, ps10, ps14, ps15]
          exact ⟨rfl, hM, hT1, hB, hR, hF, rfl⟩
      · have a1 := fl2F hf hm (show T l < 2 ^ 31 by omega) qF
        have a2 := fg2T hf hm (show T l < 2 ^ 31 by omega) qF
        simp only [e0, e1, e2, e3, e4, e5, e6, e8, l1, l2, l3, l4, l5, l6, y0, a1, a2, not_true_eq_false, not_false_eq_true, true_implies, false_implies, implies_true, and_true, true_and, forall_eq, if_true, if_false, true_or, or_true, eui, eiu, nb0, nb1, z10, z20, z01, z02, z12, z21, lt00, lt04, lt05, ps10, ps14, ps15]
        exact ⟨rfl, hM, hT1, hB, hR, hF, rfl⟩
    · have y0 := eq_false ty
      simp only [e0, e1, e2, e3, e4, e5, e6, e8, l1, l2, l3, l4, l5, l6, y0, not_true_eq_false, not_false_eq_true, true_implies, false_implies, implies_true, and_true, true_and, forall_eq, if_true, if_false, true_or, or_true, eui, eiu, nb0, nb1, z10, z20, z01, z02, z12, z21, lt00, lt04, lt05, ps10, ps14, ps15]
      exact ⟨rfl, hM, hT1, hB, hR, hF, rfl⟩
theorem q_15 : ∀ n, n < 512 → ∀ (trp : Int32) (mC : Int32) (mU : Int32) (mS : Nat → Int32) (mL : Nat → Int32) (mD : Nat → Int32) (tC : Int32) (tU : Int32) (tS : Nat → Int32) (tL : Nat → Int32) (tD : Nat → Int32) (bC : Int32) (bU : Int32) (bS : Nat → Int32) (bL : Nat → Int32) (bD : Nat → Int32) (rC : Int32) (rU : Int32) (rS : Nat → Int32) (rL : Nat → Int32) (rD : Nat → Int32) (fml : Nat → Int32) (fmb : Nat → Int32) (ftl : Nat → Int32) (ftt : Nat → Int32) (fte : Nat → Int32) (fsb : Nat → Int32) (fsr : Nat → Int32) (vth : Int32) (vtp : Int32) (vme : Int32) (vta : Int32) (vpl : Int32) (vel : Int32) (vsg : Int32) (vus : Int32) (vrw : Int32) (vur : Int32) (vwr : Int32) (vch : Int32) (gpg : Nat → Int32) (gli : Nat → Int32) (gty : Nat → Int32) (gen : Nat → Int32) (gtl : Nat → Int32) (gst : Nat → Int32) (gmn : Nat → Int32) (gdr : Nat → Int32) (ghe : Nat → Int32) (grs : Nat → Int32) (grm : Nat → Int32) (grd : Nat → Int32) (ghr : Nat → Int32) (gki : Nat → Int32) (gin : Nat → Int32) (gpl : Nat → Int32) (gle : Nat → Int32) (gso : Nat → Int32) (gva : Nat → Int64) (gck : Nat → Int32) (gci : Nat → Int32) (gcp : Nat → Int32) (gcl : Nat → Int32) (gcs : Nat → Int32) (gcv : Nat → Int32) (fo : Nat → Int64) (y1 y2 y3 y4 y5 : Int32), Inv n trp mC mU mS mL mD tC tU tS tL tD bC bU bS bL bD rC rU rS rL rD fml fmb ftl ftt fte fsb fsr vth vtp vme vta vpl vel vsg vus vrw vur vwr vch gpg gli gty gen gtl gst gmn gdr ghe grs grm grd ghr gki gin gpl gle gso gva gck gci gcp gcl gcs gcv fo → wq_15 (Inv (n + 1)) trp mC mU mS mL mD tC tU tS tL tD bC bU bS bL bD rC rU rS rL rD fml fmb ftl ftt fte fsb fsr vth vtp vme vta vpl vel vsg vus vrw vur vwr vch gpg gli gty gen gtl gst gmn gdr ghe grs grm grd ghr gki gin gpl gle gso gva gck gci gcp gcl gcs gcv fo y1 y2 y3 y4 y5 := by
  intro n hn trp mC mU mS mL mD tC tU tS tL tD bC bU bS bL bD rC rU rS rL rD fml fmb ftl ftt fte fsb fsr vth vtp vme vta vpl vel vsg vus vrw vur vwr vch gpg gli gty gen gtl gst gmn gdr ghe grs grm grd ghr gki gin gpl gle gso gva gck gci gcp gcl gcs gcv fo y1 y2 y3 y4 y5 hI
  obtain ⟨rfl, hM, ⟨C, c, T, hT⟩, hB, hR, hF, rfl⟩ := hI
  have hT1 := gT.mono ⟨C, c, T, hT⟩
  replace hM := hM.mono
  obtain ⟨rfl, rfl, hC, hs, rfl, rfl, rfl, hz, hS, rfl, rfl, rfl, rfl, hc, hw, hrow, hout⟩ := id hT
  have e0 : ((nI C).toInt ≤ 6) = True := eq_true (by rw [nI_toInt (by omega)]; omega)
  have e8 : vp_in (nI c) 520 = True := eq_true (vp_in_nI (by omega) (by decide))
  obtain ⟨CB, U, S, M, hBx⟩ := hR
  obtain ⟨rfl, rfl, hCB, rfl, rfl, hU, rfl, rfl, hst, hmn, hle, hz2, hbl⟩ := id hBx
  have hR : gS 200 _ _ _ _ _ _ _ _ _ _ := ⟨CB, U, S, M, hBx⟩
  simp only [wq_15, wp_Lw_initTable, wp_Pm_initTable, wp_Md_initTable, wp_Md_thrown]
  obtain ⟨t, ht, rfl⟩ := un_ex y3
  obtain ⟨f, hf, rfl⟩ := un_ex y4
  obtain ⟨m, hm, rfl⟩ := un_ex y5
  rcases has_cases (C := C) (by omega) y1 with ⟨hk, -⟩ | ⟨k, hk, rfl⟩
  · simp only [hk, not_true_eq_false, not_false_eq_true, true_implies, false_implies, implies_true, and_true, true_and, forall_eq, if_true, if_false, true_or, or_true, eui, eiu, nb0, nb1, z10, z20, z01, z02, z12, z21, lt00, lt04, lt05, ps10, ps14, ps15]
    exact ⟨rfl, hM, hT1, hB, hR, hF, rfl⟩
  · have hp := psum_le (L := T) hk
    have e1 := has_yes hk (show C < 2 ^ 31 by omega)
    have e2 : ly_ln (nI C) (nI k) (fun k => nI (T k)) = nI (T k) := ln_yes hk (by omega) _
    have e3 : ly_st (nI C) (nI k) tS = nI (psum T k) := by rw [st_yes hk (by omega), hS k hk]
    have e4 : vp_in (nI k) 6 = True := eq_true (vp_in_nI (by omega) (by decide))
    have e5 : (nI k).toNatClampNeg = k := nI_clamp (by omega)
    have e6 : (nI (T k)).toInt64 = lN (T k) := nI_l (by omega)
    rcases has_cases (C := CB) (by omega) y2 with ⟨hs0, hs1⟩ | ⟨s, hsg, rfl⟩
    · rcases hs1 with q | ⟨q, q2⟩
      · simp only [e0, e1, e2, e3, e4, e5, e6, e8, hs0, q, not_true_eq_false, not_false_eq_true, true_implies, false_implies, implies_true, and_true, true_and, forall_eq, if_true, if_false, true_or, or_true, eui, eiu, nb0, nb1, z10, z20, z01, z02, z12, z21, lt00, lt04, lt05, ps10, ps14, ps15]
        exact ⟨rfl, hM, hT1, hB, hR, hF, rfl⟩
      · simp only [e0, e1, e2, e3, e4, e5, e6, e8, hs0, q, q2, not_true_eq_false, not_false_eq_true, true_implies, false_implies, implies_true, and_true, true_and, forall_eq, if_true, if_false, true_or, or_true, eui, eiu, nb0, nb1, z10, z20, z01, z02, z12, z21, lt00, lt04, lt05, ps10, ps14, ps15]
        exact ⟨rfl, hM, hT1, hB, hR, hF, rfl⟩
    · have hSM := hle s hsg
      have f1 := has_yes hsg (show CB < 2 ^ 31 by omega)
      have f2 : (nI s < 0) = False := eq_false (nI_pos (by omega))
      have f3 : (nI CB ≤ nI s) = False := eq_false (nI_ge hsg (by omega))
      have f4 : vp_in (nI s) 24 = True := eq_true (vp_in_nI (by omega) (by decide))
      have f5 : (nI s).toNatClampNeg = s := nI_clamp (by omega)
      have f7 : ly_st (nI CB) (nI s) rS = nI (S s) := by rw [st_yes hsg (by omega), hst s]
      have f8 : ((nI CB).toInt ≤ 24) = True := eq_true (by rw [nI_toInt (by omega)]; omega)
      have c16 : ∀ v : Int32, (fits .int (.int v) = true) = True := fun _ => eq_true rfl
      by_cases hd : rD s = 0
      · have d1 : (rD s = 0) = True := eq_true hd
        have f6 : ly_ln (nI CB) (nI s) rL = nI (M s) := by rw [ln_yes hsg (by omega), hbl s, if_pos hd, hmn s]
        have f9 : (nI (M s)).toInt64 = lN (M s) := nI_l (by omega)
        by_cases qF : f + m ≤ M s
        · have a1 := fl2T (b := M s) hf hm (by omega) qF
          have a2 : (0 < lg_cmp (u32 (nI f) + u32 (nI m)) (lN (M s))) = False := fg2F (b := M s) hf hm (by omega) qF
          by_cases qT : t + m ≤ T k
          · have b1 := fl2T ht hm (show T k < 2 ^ 31 by omega) qT
            have b2 := fg2F ht hm (show T k < 2 ^ 31 by omega) qT
            have c1 : (nI (S s + f) < 0) = False := eq_false (nI_pos (by omega))
            have c2 : (nI (psum T k + t) < 0) = False := eq_false (nI_pos (by omega))
            have c3 : (nI m < 0) = False := eq_false (nI_pos (by omega))
            have c4 : (nI (S s + f)).toNatClampNeg = S s + f := nI_clamp (by omega)
            have c5 : (nI (psum T k + t)).toNatClampNeg = psum T k + t := nI_clamp (by omega)
            have c6 : (nI m).toNatClampNeg = m := nI_clamp (by omega)
            have c7 : (S s + f + m ≤ 200) = True := eq_true (by omega)
            have c8 : (psum T k + t + m ≤ 200) = True := eq_true (by omega)
            simp only [e0, e1, e2, e3, e4, e5, e6, e8, d1, f1, f2, f3, f4, f5, f6, f7, f8, f9, hmn, a1, a2, b1, b2, u32_i, hst, nI_add, c1, c2, c3, c4, c5, c6, c7, c8, c16, not_true_eq_false, not_false_eq_true, true_implies, false_implies, implies_true, and_true, true_and, forall_eq, if_true, if_false, true_or, or_true, eui, eiu, nb0, nb1, z10, z20, z01, z02, z12, z21, lt00, lt04, lt05, ps10, ps14, ps15]
            refine ⟨rfl, hM, gT_wr hT hn hk qT rfl rfl (lg_l2i_i2l _) (lg_l2i_i2l _) 4 (nI (S s + f)) 0 (fun i hi => if_neg hi) (fun i hi => ?_) (fun _ a h1 h2 => ?_), hB, hR, hF, rfl⟩
            · rw [if_neg (by decide), if_pos rfl, nI_add, va_cpy_in hi, nI_clamp (by omega)]
            · obtain ⟨j, hj, rfl⟩ := nI_of h1
              rw [nI_leI (by omega) (by omega)] at h2
              rw [nI_add, nI_clamp (by omega)]
              exact vp_in_nI (by omega) (by omega)
          · have b1 := fl2F ht hm (show T k < 2 ^ 31 by omega) qT
            have b2 := fg2T ht hm (show T k < 2 ^ 31 by omega) qT
            simp only [e0, e1, e2, e3, e4, e5, e6, e8, d1, f1, f2, f3, f4, f5, f6, f7, f8, f9, hmn, a1, a2, b1, b2, not_true_eq_false, not_false_eq_true, true_implies, false_implies, implies_true, and_true, true_and, forall_eq, if_true, if_false, true_or, or_true, eui, eiu, nb0, nb1, z10, z20, z01, z02, z12, z21, lt00, lt04, lt05, ps10, ps14, ps15]
            exact ⟨rfl, hM, hT1, hB, hR, hF, rfl⟩
        · have a1 := fl2F (b := M s) hf hm (by omega) qF
          have a2 : (0 < lg_cmp (u32 (nI f) + u32 (nI m)) (lN (M s))) = True := fg2T (b := M s) hf hm (by omega) qF
          simp only [e0, e1, e2, e3, e4, e5, e6, e8, d1, f1, f2, f3, f4, f5, f6, f7, f8, f9, hmn, a1, a2, not_true_eq_false, not_false_eq_true, true_implies, false_implies, implies_true, and_true, true_and, forall_eq, if_true, if_false, true_or, or_true, eui, eiu, nb0, nb1, z10, z20, z01, z02, z12, z21, lt00, lt04, lt05, ps10, ps14, ps15]
          exact ⟨rfl, hM, hT1, hB, hR, hF, rfl⟩
      · have d1 : (rD s = 0) = False := eq_false hd
        have f6 : ly_ln (nI CB) (nI s) rL = nI 0 := by rw [ln_yes hsg (by omega), hbl s, if_neg hd]; rfl
        have f9 : (nI 0).toInt64 = lN 0 := rfl
        by_cases qF : f + m ≤ 0
        · have a1 := fl2T (b := 0) hf hm (by omega) qF
          have a2 : (0 < lg_cmp (u32 (nI f) + u32 (nI m)) (0 : Int64)) = False := fg2F (b := 0) hf hm (by omega) qF
          by_cases qT : t + m ≤ T k
          · have b1 := fl2T ht hm (show T k < 2 ^ 31 by omega) qT
            have b2 := fg2F ht hm (show T k < 2 ^ 31 by omega) qT
            have c1 : (nI (S s + f) < 0) = False := eq_false (nI_pos (by omega))
            have c2 : (nI (psum T k + t) < 0) = False := eq_false (nI_pos (by omega))
            have c3 : (nI m < 0) = False := eq_false (nI_pos (by omega))
            have c4 : (nI (S s + f)).toNatClampNeg = S s + f := nI_clamp (by omega)
            have c5 : (nI (psum T k + t)).toNatClampNeg = psum T k + t := nI_clamp (by omega)
            have c6 : (nI m).toNatClampNeg = m := nI_clamp (by omega)
            have c7 : (S s + f + m ≤ 200) = True := eq_true (by omega)
            have c8 : (psum T k + t + m ≤ 200) = True := eq_true (by omega)
            simp only [e0, e1, e2, e3, e4, e5, e6, e8, d1, f1, f2, f3, f4, f5, f6, f7, f8, f9, a1, a2, b1, b2, u32_i, hst, nI_add, c1, c2, c3, c4, c5, c6, c7, c8, c16, not_true_eq_false, not_false_eq_true, true_implies, false_implies, implies_true, and_true, true_and, forall_eq, if_true, if_false, true_or, or_true, eui, eiu, nb0, nb1, z10, z20, z01, z02, z12, z21, lt00, lt04, lt05, ps10, ps14, ps15]
            refine ⟨rfl, hM, gT_wr hT hn hk qT rfl rfl (lg_l2i_i2l _) (lg_l2i_i2l _) 4 (nI (S s + f)) 0 (fun i hi => if_neg hi) (fun i hi => ?_) (fun _ a h1 h2 => ?_), hB, hR, hF, rfl⟩
            · rw [if_neg (by decide), if_pos rfl, nI_add, va_cpy_in hi, nI_clamp (by omega)]
            · obtain ⟨j, hj, rfl⟩ := nI_of h1
              rw [nI_leI (by omega) (by omega)] at h2
              rw [nI_add, nI_clamp (by omega)]
              exact vp_in_nI (by omega) (by omega)
          · have b1 := fl2F ht hm (show T k < 2 ^ 31 by omega) qT
            have b2 := fg2T ht hm (show T k < 2 ^ 31 by omega) qT
            simp only [e0, e1, e2, e3, e4, e5, e6, e8, d1, f1, f2, f3, f4, f5, f6, f7, f8, f9, a1, a2, b1, b2, not_true_eq_false, not_false_eq_true, true_implies, false_implies, implies_true, and_true, true_and, forall_eq, if_true, if_false, true_or, or_true, eui, eiu, nb0, nb1, z10, z20, z01, z02, z12, z21, lt00, lt04, lt05, ps10, ps14, ps15]
            exact ⟨rfl, hM, hT1, hB, hR, hF, rfl⟩
        · have a1 := fl2F (b := 0) hf hm (by omega) qF
          have a2 : (0 < lg_cmp (u32 (nI f) + u32 (nI m)) (0 : Int64)) = True := fg2T (b := 0) hf hm (by omega) qF
          simp only [e0, e1, e2, e3, e4, e5, e6, e8, d1, f1, f2, f3, f4, f5, f6, f7, f8, f9, a1, a2, not_true_eq_false, not_false_eq_true, true_implies, false_implies, implies_true, and_true, true_and, forall_eq, if_true, if_false, true_or, or_true, eui, eiu, nb0, nb1, z10, z20, z01, z02, z12, z21, lt00, lt04, lt05, ps10, ps14, ps15]
          exact ⟨rfl, hM, hT1, hB, hR, hF, rfl⟩
