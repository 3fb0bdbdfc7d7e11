theorem q_16 : ∀ n, n < 512 → ∀ (trp : Int32) (mC : Int32) (mU : Int32) (mS : Nat → Int32) (mL : Nat → Int32) (mD : Nat → Int32) (tC : Int32) (tU : Int32) (tS : Nat → Int32) (tL : Nat → Int32) (tD : Nat → Int32) (bC : Int32) (bU : Int32) (bS : Nat → Int32) (bL : Nat → Int32) (bD : Nat → Int32) (rC : Int32) (rU : Int32) (rS : Nat → Int32) (rL : Nat → Int32) (rD : Nat → Int32) (fml : Nat → Int32) (fmb : Nat → Int32) (ftl : Nat → Int32) (ftt : Nat → Int32) (fte : Nat → Int32) (fsb : Nat → Int32) (fsr : Nat → Int32) (vth : Int32) (vtp : Int32) (vme : Int32) (vta : Int32) (vpl : Int32) (vel : Int32) (vsg : Int32) (vus : Int32) (vrw : Int32) (vur : Int32) (vwr : Int32) (vch : Int32) (gpg : Nat → Int32) (gli : Nat → Int32) (gty : Nat → Int32) (gen : Nat → Int32) (gtl : Nat → Int32) (gst : Nat → Int32) (gmn : Nat → Int32) (gdr : Nat → Int32) (ghe : Nat → Int32) (grs : Nat → Int32) (grm : Nat → Int32) (grd : Nat → Int32) (ghr : Nat → Int32) (gki : Nat → Int32) (gin : Nat → Int32) (gpl : Nat → Int32) (gle : Nat → Int32) (gso : Nat → Int32) (gva : Nat → Int64) (gck : Nat → Int32) (gci : Nat → Int32) (gcp : Nat → Int32) (gcl : Nat → Int32) (gcs : Nat → Int32) (gcv : Nat → Int32) (fo : Nat → Int64) (y1 y2 : Int32), Inv n trp mC mU mS mL mD tC tU tS tL tD bC bU bS bL bD rC rU rS rL rD fml fmb ftl ftt fte fsb fsr vth vtp vme vta vpl vel vsg vus vrw vur vwr vch gpg gli gty gen gtl gst gmn gdr ghe grs grm grd ghr gki gin gpl gle gso gva gck gci gcp gcl gcs gcv fo → wq_16 (Inv (n + 1)) trp mC mU mS mL mD tC tU tS tL tD bC bU bS bL bD rC rU rS rL rD fml fmb ftl ftt fte fsb fsr vth vtp vme vta vpl vel vsg vus vrw vur vwr vch gpg gli gty gen gtl gst gmn gdr ghe grs grm grd ghr gki gin gpl gle gso gva gck gci gcp gcl gcs gcv fo y1 y2 := by
  intro n hn trp mC mU mS mL mD tC tU tS tL tD bC bU bS bL bD rC rU rS rL rD fml fmb ftl ftt fte fsb fsr vth vtp vme vta vpl vel vsg vus vrw vur vwr vch gpg gli gty gen gtl gst gmn gdr ghe grs grm grd ghr gki gin gpl gle gso gva gck gci gcp gcl gcs gcv fo y1 y2 hI
  obtain ⟨rfl, hM, hT, hB, hR, hF, rfl⟩ := hI
  have hM1 := hM.mono
  have hT1 := hT.mono
  obtain ⟨C, U, S, M, hx⟩ := hR
  obtain ⟨rfl, rfl, hC, rfl, rfl, hU, rfl, rfl, hst, hmn, hle, hz, hbl⟩ := id hx
  have hR : gS 200 _ _ _ _ _ _ _ _ _ _ := ⟨C, U, S, M, hx⟩
  have e0 : ((nI C).toInt ≤ 24) = True := eq_true (by rw [nI_toInt (by omega)]; omega)
  by_cases hy : y2 = 0
  · have hy := eq_true hy
    by_cases cf : C = 24
    · have o1 : ly_full (nI C) 24 = 1 := full_yes (by omega) (by omega)
      have o2 : ((24 : Int32) ≤ nI C) = True := eq_true (nI_le (a := 24) (by omega) (by omega))
      by_cases rr : y1 < (-1)
      · simp only [wq_16, wp_Pm_element, wp_Md_element, hy, o1, o2, ref_0 rr, rr, not_true_eq_false, not_false_eq_true, true_implies, false_implies, implies_true, and_true, true_and, forall_eq, if_true, if_false, true_or, or_true, eui, eiu, nb0, nb1, z10, z20, z01, z02, z12, z21, lt00, lt04, lt05, ps10, ps14, ps15]
        exact ⟨rfl, hM1, hT1, hB, hR, hF, rfl⟩
      simp only [wq_16, wp_Pm_element, wp_Md_element, hy, ly_can, o1, o2, ref_1 rr, rr, e0, not_true_eq_false, not_false_eq_true, true_implies, false_implies, implies_true, and_true, true_and, forall_eq, if_true, if_false, true_or, or_true, eui, eiu, nb0, nb1, z10, z20, z01, z02, z12, z21, lt00, lt04, lt05, ps10, ps14, ps15]
      exact ⟨rfl, hM1, hT1, hB, hR, hF, rfl⟩

    · have o1 : ly_full (nI C) 24 = 0 := full_no (by omega) (by omega)
      have o2 : ((24 : Int32) ≤ nI C) = False := eq_false (nI_ge (b := 24) (by omega) (by omega))
      have o3 : vp_in (nI C) 24 = True := eq_true (vp_in_nI (by omega) (by decide))
      have k1 : (nI C).toNatClampNeg = C := nI_clamp (by omega)
      have k2 : nI C + 1 - 1 = nI C := by rw [nI_1]; exact nI_pred C
      by_cases rr : y1 < (-1)
      · simp only [wq_16, wp_Pm_element, wp_Md_element, hy, o1, o2, o3, ref_0 rr, rr, not_true_eq_false, not_false_eq_true, true_implies, false_implies, implies_true, and_true, true_and, forall_eq, if_true, if_false, true_or, or_true, eui, eiu, nb0, nb1, z10, z20, z01, z02, z12, z21, lt00, lt04, lt05, ps10, ps14, ps15]
        exact ⟨rfl, hM1, hT1, hB, hR, hF, rfl⟩
      have r0 : (200 : Int32) - nI U = nI (200 - U) := left_t hU
      by_cases rm : U = 200
      · have r1 : (nI (200 - U) < 1) = True := eq_true (nI_lt (b := 1) (by omega) (by decide))
        have r2 : (nI U = 200) = True := eq_true (by rw [rm]; rfl)
        simp only [wq_16, wp_Pm_element, wp_Md_element, hy, ly_can, o1, o2, o3, k1, k2, ref_1 rr, rr, e0, r0, r1, r2, not_true_eq_false, not_false_eq_true, true_implies, false_implies, implies_true, and_true, true_and, forall_eq, if_true, if_false, true_or, or_true, eui, eiu, nb0, nb1, z10, z20, z01, z02, z12, z21, lt00, lt04, lt05, ps10, ps14, ps15]
        exact ⟨rfl, hM1, hT1, hB, hR, hF, rfl⟩
      · have r1 : (nI (200 - U) < 1) = False := eq_false (nI_nlt (b := 1) (by omega) (by omega))
        have r2 : (nI U = 200) = False := eq_false (fun q => rm ((nI_eq (b := 200) (by omega) (by decide)).mp q))
        have s0 : vp_in (nI U) 200 = True := eq_true (vp_in_nI (by omega) (by decide))
        have s2 : (nI U).toNatClampNeg = U := nI_clamp (by omega)
        have s6 : (24 < 2147483648) = True := eq_true (by decide)
        have hT2 := gT_he (vur' := nI U + 1) (ghr' := upd fsr U y1) hT (fun i hi => by rw [s2] at hi; exact (upd_ne (by omega)).symm) (by rw [s2, nI_1, nI_clamp (by omega)]; omega)
        simp only [wq_16, wp_Pm_element, wp_Md_element, hy, ly_can, o1, o2, o3, k1, k2, ref_1 rr, rr, e0, r0, r1, r2, s0, s2, s6, not_true_eq_false, not_false_eq_true, true_implies, false_implies, implies_true, and_true, true_and, forall_eq, if_true, if_false, true_or, or_true, eui, eiu, nb0, nb1, z10, z20, z01, z02, z12, z21, lt00, lt04, lt05, ps10, ps14, ps15]
        exact ⟨rfl, hM1, hT2, hB, gS_new (m := 1) hx (by omega) (by omega), hF, rfl⟩

  · have hy := eq_false hy
    by_cases cf : C = 0
    · have o1 : (nI C ≤ 0) = True := eq_true (nI_le (b := 0) (by omega) (by omega))
      by_cases rr : y1 < (-1)
      · simp only [wq_16, wp_Pm_element, wp_Md_element, hy, o1, ref_0 rr, rr, not_true_eq_false, not_false_eq_true, true_implies, false_implies, implies_true, and_true, true_and, forall_eq, if_true, if_false, true_or, or_true, eui, eiu, nb0, nb1, z10, z20, z01, z02, z12, z21, lt00, lt04, lt05, ps10, ps14, ps15]
        exact ⟨rfl, hM1, hT1, hB, hR, hF, rfl⟩
      simp only [wq_16, wp_Pm_element, wp_Md_element, hy, ly_can, o1, ref_1 rr, rr, e0, not_true_eq_false, not_false_eq_true, true_implies, false_implies, implies_true, and_true, true_and, forall_eq, if_true, if_false, true_or, or_true, eui, eiu, nb0, nb1, z10, z20, z01, z02, z12, z21, lt00, lt04, lt05, ps10, ps14, ps15]
      exact ⟨rfl, hM1, hT1, hB, hR, hF, rfl⟩

    have o1 : (nI C ≤ 0) = False := eq_false (nI_nle (by omega) (by omega))
    have o2 : nI C - 1 = nI (C - 1) := by rw [show (1 : Int32) = nI 1 from rfl, pk_sub (by omega)]
    have o3 : (nI (C - 1)).toNatClampNeg = C - 1 := nI_clamp (by omega)
    have o4 : vp_in (nI (C - 1)) 24 = True := eq_true (vp_in_nI (by omega) (by decide))
    by_cases cd : rD (C - 1) = 0
    · have o5 := eq_true cd
      have k1 : (nI C).toNatClampNeg = C := nI_clamp (by omega)
      have k2 : nI C + 1 - 1 = nI C := by rw [nI_1]; exact nI_pred C
      by_cases rr : y1 < (-1)
      · simp only [wq_16, wp_Pm_element, wp_Md_element, hy, o1, o2, o3, o4, o5, ref_0 rr, rr, not_true_eq_false, not_false_eq_true, true_implies, false_implies, implies_true, and_true, true_and, forall_eq, if_true, if_false, true_or, or_true, eui, eiu, nb0, nb1, z10, z20, z01, z02, z12, z21, lt00, lt04, lt05, ps10, ps14, ps15]
        exact ⟨rfl, hM1, hT1, hB, hR, hF, rfl⟩
      have r0 : (200 : Int32) - nI U = nI (200 - U) := left_t hU
      by_cases rm : U = 200
      · have r1 : (nI (200 - U) < 1) = True := eq_true (nI_lt (b := 1) (by omega) (by decide))
        have r2 : (nI U = 200) = True := eq_true (by rw [rm]; rfl)
        simp only [wq_16, wp_Pm_element, wp_Md_element, hy, ly_can, o1, o2, o3, o4, o5, k1, k2, ref_1 rr, rr, e0, r0, r1, r2, not_true_eq_false, not_false_eq_true, true_implies, false_implies, implies_true, and_true, true_and, forall_eq, if_true, if_false, true_or, or_true, eui, eiu, nb0, nb1, z10, z20, z01, z02, z12, z21, lt00, lt04, lt05, ps10, ps14, ps15]
        exact ⟨rfl, hM1, hT1, hB, hR, hF, rfl⟩
      · have r1 : (nI (200 - U) < 1) = False := eq_false (nI_nlt (b := 1) (by omega) (by omega))
        have r2 : (nI U = 200) = False := eq_false (fun q => rm ((nI_eq (b := 200) (by omega) (by decide)).mp q))
        have s0 : vp_in (nI U) 200 = True := eq_true (vp_in_nI (by omega) (by decide))
        have s2 : (nI U).toNatClampNeg = U := nI_clamp (by omega)
        have s6 : (24 < 2147483648) = True := eq_true (by decide)
        have hT2 := gT_he (vur' := nI U + 1) (ghr' := upd fsr U y1) hT (fun i hi => by rw [s2] at hi; exact (upd_ne (by omega)).symm) (by rw [s2, nI_1, nI_clamp (by omega)]; omega)
        simp only [wq_16, wp_Pm_element, wp_Md_element, hy, ly_can, o1, o2, o3, o4, o5, k1, k2, ref_1 rr, rr, e0, r0, r1, r2, s0, s2, s6, not_true_eq_false, not_false_eq_true, true_implies, false_implies, implies_true, and_true, true_and, forall_eq, if_true, if_false, true_or, or_true, eui, eiu, nb0, nb1, z10, z20, z01, z02, z12, z21, lt00, lt04, lt05, ps10, ps14, ps15]
        exact ⟨rfl, hM1, hT2, hB, gS_more (m := 1) hx (by omega) cd (by omega), hF, rfl⟩

    · have o5 := eq_false cd
      by_cases rr : y1 < (-1)
      · simp only [wq_16, wp_Pm_element, wp_Md_element, hy, o1, o2, o3, o4, o5, ref_0 rr, rr, not_true_eq_false, not_false_eq_true, true_implies, false_implies, implies_true, and_true, true_and, forall_eq, if_true, if_false, true_or, or_true, eui, eiu, nb0, nb1, z10, z20, z01, z02, z12, z21, lt00, lt04, lt05, ps10, ps14, ps15]
        exact ⟨rfl, hM1, hT1, hB, hR, hF, rfl⟩
      simp only [wq_16, wp_Pm_element, wp_Md_element, hy, ly_can, o1, o2, o3, o4, o5, ref_1 rr, rr, e0, not_true_eq_false, not_false_eq_true, true_implies, false_implies, implies_true, and_true, true_and, forall_eq, if_true, if_false, true_or, or_true, eui, eiu, nb0, nb1, z10, z20, z01, z02, z12, z21, lt00, lt04, lt05, ps10, ps14, ps15]
      exact ⟨rfl, hM1, hT1, hB, hR, hF, rfl⟩

