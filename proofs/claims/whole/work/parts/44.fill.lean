
abbrev SSdummy : Nat := 0
theorem q_4 : ∀ n, n < 512 → ∀ (trp : Int32) (mC : Int32) (mU : Int32) (mS : Nat → Int32) (mL : Nat → Int32) (mD : Nat → Int32) (tC : Int32) (tU : Int32) (tS : Nat → Int32) (tL : Nat → Int32) (tD : Nat → Int32) (bC : Int32) (bU : Int32) (bS : Nat → Int32) (bL : Nat → Int32) (bD : Nat → Int32) (rC : Int32) (rU : Int32) (rS : Nat → Int32) (rL : Nat → Int32) (rD : Nat → Int32) (fml : Nat → Int32) (fmb : Nat → Int32) (ftl : Nat → Int32) (ftt : Nat → Int32) (fte : Nat → Int32) (fsb : Nat → Int32) (fsr : Nat → Int32) (vth : Int32) (vtp : Int32) (vme : Int32) (vta : Int32) (vpl : Int32) (vel : Int32) (vsg : Int32) (vus : Int32) (vrw : Int32) (vur : Int32) (vwr : Int32) (vch : Int32) (gpg : Nat → Int32) (gli : Nat → Int32) (gty : Nat → Int32) (gen : Nat → Int32) (gtl : Nat → Int32) (gst : Nat → Int32) (gmn : Nat → Int32) (gdr : Nat → Int32) (ghe : Nat → Int32) (grs : Nat → Int32) (grm : Nat → Int32) (grd : Nat → Int32) (ghr : Nat → Int32) (gki : Nat → Int32) (gin : Nat → Int32) (gpl : Nat → Int32) (gle : Nat → Int32) (gso : Nat → Int32) (gva : Nat → Int64) (gck : Nat → Int32) (gci : Nat → Int32) (gcp : Nat → Int32) (gcl : Nat → Int32) (gcs : Nat → Int32) (gcv : Nat → Int32) (fo : Nat → Int64) (y1 y2 y3 y4 : Int32), Inv n trp mC mU mS mL mD tC tU tS tL tD bC bU bS bL bD rC rU rS rL rD fml fmb ftl ftt fte fsb fsr vth vtp vme vta vpl vel vsg vus vrw vur vwr vch gpg gli gty gen gtl gst gmn gdr ghe grs grm grd ghr gki gin gpl gle gso gva gck gci gcp gcl gcs gcv fo → wq_4 (Inv (n + 1)) trp mC mU mS mL mD tC tU tS tL tD bC bU bS bL bD rC rU rS rL rD fml fmb ftl ftt fte fsb fsr vth vtp vme vta vpl vel vsg vus vrw vur vwr vch gpg gli gty gen gtl gst gmn gdr ghe grs grm grd ghr gki gin gpl gle gso gva gck gci gcp gcl gcs gcv fo y1 y2 y3 y4 := by
  intro n hn trp mC mU mS mL mD tC tU tS tL tD bC bU bS bL bD rC rU rS rL rD fml fmb ftl ftt fte fsb fsr vth vtp vme vta vpl vel vsg vus vrw vur vwr vch gpg gli gty gen gtl gst gmn gdr ghe grs grm grd ghr gki gin gpl gle gso gva gck gci gcp gcl gcs gcv fo y1 y2 y3 y4 hI
  obtain ⟨rfl, ⟨C, c, P, hM⟩, hT, hB, hR, hF, rfl⟩ := hI
  have hM1 := gM.mono ⟨C, c, P, hM⟩
  replace hT := hT.mono
  obtain ⟨rfl, rfl, hC, hs, rfl, rfl, hg, hz, hS, rfl, rfl, rfl, hc, hw, hfb, hrow, h0, hout⟩ := id hM
  simp only [wq_4, wp_Lw_fill, wp_Pm_fill, wp_Md_fill, wp_Md_thrown]
  have e0 : ((nI C).toInt ≤ 6) = True := eq_true (by rw [nI_toInt (by omega)]; omega)
  rcases has_cases (C := C) (by omega) y1 with ⟨hk, -⟩ | ⟨k, hk, rfl⟩
  · simp only [hk, nb0, not_true_eq_false, true_implies, false_implies, and_true, true_and, forall_eq, if_true, true_or, eui, eiu]
    exact ⟨rfl, hM1, hT, hB, hR, hF, rfl⟩
  · have hp := psum_le (L := P) hk
    have hpb := psum_lb (P := P) hk
    have hpc := psum_by P C
    have e1 := has_yes hk (show C < 2 ^ 31 by omega)
    have e2 : ly_ln (nI C) (nI k) (fun k => nI (256 * P k)) = nI (256 * P k) := ln_yes hk (by omega) _
    have e3 : ly_st (nI C) (nI k) mS = nI (psum (bys P) k) := by rw [st_yes hk (by omega), hS k hk]
    have e4 : vp_in (nI k) 6 = True := eq_true (vp_in_nI (by omega) (by decide))
    have e5 : (nI k).toNatClampNeg = k := nI_clamp (by omega)
    have e6 : (nI (256 * P k)).toInt64 = lN (256 * P k) := nI_l (by omega)
    have e7 : (nI (P k)).toInt64 * 256 = lN (256 * P k) := by_l (by omega)
    by_cases hfit : un y2 + un y4 ≤ 256 * P k
    · have c1 : (lg_cmp (u32 y2 + u32 y4) (lN (256 * P k)) ≤ 0) = True := eq_true ((fit_le rfl (by omega)).mpr hfit)
      have c2 : (0 < lg_cmp (u32 y2 + u32 y4) (lN (256 * P k))) = False := eq_false (fun q => by have := (fit_gt rfl (by omega)).mp q; omega)
      obtain ⟨t, m, -, -, rfl, rfl, htm⟩ := un_two hfit (by omega)
      have c3 : (nI (psum (bys P) k + t) < 0) = False := eq_false (nI_pos (by omega))
      have c4 : (nI (psum (bys P) k + t) ≤ nI (psum (bys P) k + t + m)) = True := eq_true (nI_le (by omega) (by omega))
      have c5 : (nI (psum (bys P) k + t + m) ≤ nI 12288) = True := eq_true (nI_le (by omega) (by decide))
      have c6 : (nI (psum (bys P) k + t)).toNatClampNeg = psum (bys P) k + t := nI_clamp (by omega)
      have c7 : (nI (psum (bys P) k + t + m)).toNatClampNeg = psum (bys P) k + t + m := nI_clamp (by omega)
      have c8 : vp_in (nI c) 520 = True := eq_true (vp_in_nI (by omega) (by decide))
      have c9 : (12288 < 2147483648) = True := eq_true (by decide)
      have c10 : (vp_nar .byte y3.toInt8.toInt32 = y3.toInt8.toInt32) = True := eq_true (lg_i2b_small (by have := (y3.toInt8).le_toInt; rw [Int8.toInt_toInt32]; omega) (by have := (y3.toInt8).toInt_lt; rw [Int8.toInt_toInt32]; omega))
      simp only [e0, e1, e2, e3, e4, e5, e6, e7, hg, c1, c2, c3, u32_i, nI_add, c4, c5, c6, c7, c8, c9, c10, z10, nb1, not_true_eq_false, not_false_eq_true, true_implies, false_implies, and_true, true_and, forall_eq, if_true, if_false, lt00, ps10, true_or, eui, eiu]
      refine ⟨rfl, gM_wr hM hn hk htm rfl rfl (lg_l2i_i2l _) (lg_l2i_i2l _) 2 0 y3.toInt64 (fun i hi => if_neg hi) (hfb.fill _ _ (pk_fb _)) (fun i hi => ?_) (fun q => absurd q (by decide)), hT, hB, hR, hF, rfl⟩
      rw [if_neg (by decide), if_pos rfl, fl_val]
      unfold ar_fill
      rw [if_pos ⟨by omega, by omega⟩]
    · have c1 : (lg_cmp (u32 y2 + u32 y4) (lN (256 * P k)) ≤ 0) = False := eq_false (fun q => hfit ((fit_le rfl (by omega)).mp q))
      have c2 : (0 < lg_cmp (u32 y2 + u32 y4) (lN (256 * P k))) = True := eq_true ((fit_gt rfl (by omega)).mpr (by omega))
      simp only [e0, e1, e2, e3, e4, e5, e6, e7, hg, c1, c2, z10, nb1, not_true_eq_false, not_false_eq_true, true_implies, false_implies, and_true, true_and, forall_eq, if_true, if_false, lt04, ps14, or_true, eui, eiu]
      exact ⟨rfl, hM1, hT, hB, hR, hF, rfl⟩
