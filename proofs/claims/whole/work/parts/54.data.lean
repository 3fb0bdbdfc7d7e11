theorem q_7 : ∀ n, n < 512 → ∀ (trp : Int32) (mC : Int32) (mU : Int32) (mS : Nat → Int32) (mL : Nat → Int32) (mD : Nat → Int32) (tC : Int32) (tU : Int32) (tS : Nat → Int32) (tL : Nat → Int32) (tD : Nat → Int32) (bC : Int32) (bU : Int32) (bS : Nat → Int32) (bL : Nat → Int32) (bD : Nat → Int32) (rC : Int32) (rU : Int32) (rS : Nat → Int32) (rL : Nat → Int32) (rD : Nat → Int32) (fml : Nat → Int32) (fmb : Nat → Int32) (ftl : Nat → Int32) (ftt : Nat → Int32) (fte : Nat → Int32) (fsb : Nat → Int32) (fsr : Nat → Int32) (vth : Int32) (vtp : Int32) (vme : Int32) (vta : Int32) (vpl : Int32) (vel : Int32) (vsg : Int32) (vus : Int32) (vrw : Int32) (vur : Int32) (vwr : Int32) (vch : Int32) (gpg : Nat → Int32) (gli : Nat → Int32) (gty : Nat → Int32) (gen : Nat → Int32) (gtl : Nat → Int32) (gst : Nat → Int32) (gmn : Nat → Int32) (gdr : Nat → Int32) (ghe : Nat → Int32) (grs : Nat → Int32) (grm : Nat → Int32) (grd : Nat → Int32) (ghr : Nat → Int32) (gki : Nat → Int32) (gin : Nat → Int32) (gpl : Nat → Int32) (gle : Nat → Int32) (gso : Nat → Int32) (gva : Nat → Int64) (gck : Nat → Int32) (gci : Nat → Int32) (gcp : Nat → Int32) (gcl : Nat → Int32) (gcs : Nat → Int32) (gcv : Nat → Int32) (fo : Nat → Int64) (y1 y2 y3 y4 : Int32), Inv n trp mC mU mS mL mD tC tU tS tL tD bC bU bS bL bD rC rU rS rL rD fml fmb ftl ftt fte fsb fsr vth vtp vme vta vpl vel vsg vus vrw vur vwr vch gpg gli gty gen gtl gst gmn gdr ghe grs grm grd ghr gki gin gpl gle gso gva gck gci gcp gcl gcs gcv fo → wq_7 (Inv (n + 1)) trp mC mU mS mL mD tC tU tS tL tD bC bU bS bL bD rC rU rS rL rD fml fmb ftl ftt fte fsb fsr vth vtp vme vta vpl vel vsg vus vrw vur vwr vch gpg gli gty gen gtl gst gmn gdr ghe grs grm grd ghr gki gin gpl gle gso gva gck gci gcp gcl gcs gcv fo y1 y2 y3 y4 := by
  intro n hn trp mC mU mS mL mD tC tU tS tL tD bC bU bS bL bD rC rU rS rL rD fml fmb ftl ftt fte fsb fsr vth vtp vme vta vpl vel vsg vus vrw vur vwr vch gpg gli gty gen gtl gst gmn gdr ghe grs grm grd ghr gki gin gpl gle gso gva gck gci gcp gcl gcs gcv fo y1 y2 y3 y4 hI
  obtain ⟨rfl, hM, hT, hB, hR, hF, rfl⟩ := hI
  have hM1 := hM.mono
  have hT1 := hT.mono
  obtain ⟨C, U, S, M, hx⟩ := hB
  obtain ⟨rfl, rfl, hC, rfl, rfl, hU, rfl, rfl, hst, hmn, hle, hz, hbl⟩ := id hx
  have hB : gS 600 _ _ _ _ _ _ _ _ _ _ := ⟨C, U, S, M, hx⟩
  have e0 : ((nI C).toInt ≤ 24) = True := eq_true (by rw [nI_toInt (by omega)]; omega)
  generalize hV : ((y1.toInt64 <<< ((32 : Int32).toInt64 &&& 63)) ||| (y2.toInt64 &&& 4294967295)) = V
  by_cases hy : y4 = 0
  · have hy := eq_true hy
    by_cases cf : C = 24
    · have o1 : ly_full (nI C) 24 = 1 := full_yes (by omega) (by omega)
      have o2 : ((24 : Int32) ≤ nI C) = True := eq_true (nI_le (a := 24) (by omega) (by omega))
      by_cases n1 : y3 < 0
      · simp only [wq_7, hV, wp_Pm_data, wp_Md_data, hy, o1, o2, n1, not_true_eq_false, not_false_eq_true, true_implies, false_implies, implies_true, and_true, true_and, forall_eq, if_true, if_false, true_or, or_true, eui, eiu, nb0, nb1, z10, z20, z01, z02, z12, z21, lt00, lt04, lt05, ps10, ps14, ps15]
        exact ⟨rfl, hM1, hT1, hB, hR, hF, rfl⟩
      by_cases n2 : 8 < y3
      · simp only [wq_7, hV, wp_Pm_data, wp_Md_data, hy, o1, o2, n1, n2, not_true_eq_false, not_false_eq_true, true_implies, false_implies, implies_true, and_true, true_and, forall_eq, if_true, if_false, true_or, or_true, eui, eiu, nb0, nb1, z10, z20, z01, z02, z12, z21, lt00, lt04, lt05, ps10, ps14, ps15]
        exact ⟨rfl, hM1, hT1, hB, hR, hF, rfl⟩
      simp only [wq_7, hV, wp_Pm_data, wp_Md_data, hy, ly_can, o1, o2, n1, n2, e0, not_true_eq_false, not_false_eq_true, true_implies, false_implies, implies_true, and_true, true_and, forall_eq, if_true, if_false, true_or, or_true, eui, eiu, nb0, nb1, z10, z20, z01, z02, z12, z21, lt00, lt04, lt05, ps10, ps14, ps15]
      exact ⟨rfl, hM1, hT1, hB, hR, hF, rfl⟩

    · have o1 : ly_full (nI C) 24 = 0 := full_no (by omega) (by omega)
      have o2 : ((24 : Int32) ≤ nI C) = False := eq_false (nI_ge (b := 24) (by omega) (by omega))
      have o3 : vp_in (nI C) 24 = True := eq_true (vp_in_nI (by omega) (by decide))
      have k1 : (nI C).toNatClampNeg = C := nI_clamp (by omega)
      have k2 : nI C + 1 - 1 = nI C := by rw [nI_1]; exact nI_pred C
      by_cases n1 : y3 < 0
      · simp only [wq_7, hV, wp_Pm_data, wp_Md_data, hy, o1, o2, o3, n1, not_true_eq_false, not_false_eq_true, true_implies, false_implies, implies_true, and_true, true_and, forall_eq, if_true, if_false, true_or, or_true, eui, eiu, nb0, nb1, z10, z20, z01, z02, z12, z21, lt00, lt04, lt05, ps10, ps14, ps15]
        exact ⟨rfl, hM1, hT1, hB, hR, hF, rfl⟩
      by_cases n2 : 8 < y3
      · simp only [wq_7, hV, wp_Pm_data, wp_Md_data, hy, o1, o2, o3, n1, n2, not_true_eq_false, not_false_eq_true, true_implies, false_implies, implies_true, and_true, true_and, forall_eq, if_true, if_false, true_or, or_true, eui, eiu, nb0, nb1, z10, z20, z01, z02, z12, z21, lt00, lt04, lt05, ps10, ps14, ps15]
        exact ⟨rfl, hM1, hT1, hB, hR, hF, rfl⟩
      have n3 : y3 ≤ 8 := by
        rw [Int32.lt_iff_toInt_lt] at n2
        rw [Int32.le_iff_toInt_le]
        omega
      obtain ⟨m, hm, rfl⟩ := nI_of2 (n := 8) (M := 8) (by decide) n1 n3
      have r0 : (600 : Int32) - nI U = nI (600 - U) := by rw [show (600 : Int32) = nI 600 from rfl, pk_sub hU]
      have r3 : nI U + nI m = nI (U + m) := nI_add _ _
      by_cases rm : U + m ≤ 600
      · have r1 : (nI (600 - U) < nI m) = False := eq_false (nI_nlt (by omega) (by omega))
        have r2 : (nI (U + m) ≤ 600) = True := eq_true (nI_le (b := 600) rm (by decide))
        have s1 : (nI U < 0) = False := eq_false (nI_pos (by omega))
        have s2 : (nI U).toNatClampNeg = U := nI_clamp (by omega)
        have s3 : (nI m).toNatClampNeg = m := nI_clamp (by omega)
        have s4 := eq_true rm
        have s5 : (600 < 2147483648) = True := eq_true (by decide)
        have s6 : (24 < 2147483648) = True := eq_true (by decide)
        have hM2 := gM_he (vus' := nI (U + m)) (ghe' := heP ghe U m V) hM (fun i hi => by rw [s2] at hi; unfold heP; rw [if_neg (by omega)]) (by rw [s2, nI_clamp (by omega)]; omega)
        simp only [wq_7, hV, wp_Pm_data, wp_Md_data, hy, ly_can, o1, o2, o3, k1, k2, n1, n2, e0, r0, r1, r2, r3, s1, s2, s3, s4, s5, s6, not_true_eq_false, not_false_eq_true, true_implies, false_implies, implies_true, and_true, true_and, forall_eq, if_true, if_false, true_or, or_true, eui, eiu, nb0, nb1, z10, z20, z01, z02, z12, z21, lt00, lt04, lt05, ps10, ps14, ps15]
        refine dt_loop0 rm (by rw [k2]; exact vp_in_nI (by omega) (by decide)) ghe ?_
        have r5 : nI C + 1 - 1 = nI C := k2
        simp only [o1, o2, o3, r3, r5, k1, not_true_eq_false, not_false_eq_true, true_implies, false_implies, implies_true, and_true, true_and, forall_eq, if_true, if_false, true_or, or_true, eui, eiu, nb0, nb1, z10, z20, z01, z02, z12, z21, lt00, lt04, lt05, ps10, ps14, ps15]
        have g := gS_new (m := m) hx (by omega) rm
        rw [r3] at g
        exact ⟨rfl, hM2, hT1, g, hR, ⟨hF.1.put _ _ _, he_ok hF.2 hm V⟩, rfl⟩
      · have r1 : (nI (600 - U) < nI m) = True := eq_true (nI_lt (by omega) (by omega))
        have r2 : (nI (U + m) ≤ 600) = False := eq_false (nI_ge (a := 600) (by omega) (by omega))
        simp only [wq_7, hV, wp_Pm_data, wp_Md_data, hy, ly_can, o1, o2, o3, k1, k2, n1, n2, e0, r0, r1, r2, r3, not_true_eq_false, not_false_eq_true, true_implies, false_implies, implies_true, and_true, true_and, forall_eq, if_true, if_false, true_or, or_true, eui, eiu, nb0, nb1, z10, z20, z01, z02, z12, z21, lt00, lt04, lt05, ps10, ps14, ps15]
        exact ⟨rfl, hM1, hT1, hB, hR, hF, rfl⟩

  · have hy := eq_false hy
    by_cases cf : C = 0
    · have o1 : (nI C ≤ 0) = True := eq_true (nI_le (b := 0) (by omega) (by omega))
      by_cases n1 : y3 < 0
      · simp only [wq_7, hV, wp_Pm_data, wp_Md_data, hy, o1, n1, not_true_eq_false, not_false_eq_true, true_implies, false_implies, implies_true, and_true, true_and, forall_eq, if_true, if_false, true_or, or_true, eui, eiu, nb0, nb1, z10, z20, z01, z02, z12, z21, lt00, lt04, lt05, ps10, ps14, ps15]
        exact ⟨rfl, hM1, hT1, hB, hR, hF, rfl⟩
      by_cases n2 : 8 < y3
      · simp only [wq_7, hV, wp_Pm_data, wp_Md_data, hy, o1, n1, n2, not_true_eq_false, not_false_eq_true, true_implies, false_implies, implies_true, and_true, true_and, forall_eq, if_true, if_false, true_or, or_true, eui, eiu, nb0, nb1, z10, z20, z01, z02, z12, z21, lt00, lt04, lt05, ps10, ps14, ps15]
        exact ⟨rfl, hM1, hT1, hB, hR, hF, rfl⟩
      simp only [wq_7, hV, wp_Pm_data, wp_Md_data, hy, ly_can, o1, n1, n2, e0, not_true_eq_false, not_false_eq_true, true_implies, false_implies, implies_true, and_true, true_and, forall_eq, if_true, if_false, true_or, or_true, eui, eiu, nb0, nb1, z10, z20, z01, z02, z12, z21, lt00, lt04, lt05, ps10, ps14, ps15]
      exact ⟨rfl, hM1, hT1, hB, hR, hF, rfl⟩

    have o1 : (nI C ≤ 0) = False := eq_false (nI_nle (by omega) (by omega))
    have o2 : nI C - 1 = nI (C - 1) := by rw [show (1 : Int32) = nI 1 from rfl, pk_sub (by omega)]
    have o3 : (nI (C - 1)).toNatClampNeg = C - 1 := nI_clamp (by omega)
    have o4 : vp_in (nI (C - 1)) 24 = True := eq_true (vp_in_nI (by omega) (by decide))
    by_cases cd : bD (C - 1) = 0
    · have o5 := eq_true cd
      have k1 : (nI C).toNatClampNeg = C := nI_clamp (by omega)
      have k2 : nI C + 1 - 1 = nI C := by rw [nI_1]; exact nI_pred C
      by_cases n1 : y3 < 0
      · simp only [wq_7, hV, wp_Pm_data, wp_Md_data, hy, o1, o2, o3, o4, o5, n1, not_true_eq_false, not_false_eq_true, true_implies, false_implies, implies_true, and_true, true_and, forall_eq, if_true, if_false, true_or, or_true, eui, eiu, nb0, nb1, z10, z20, z01, z02, z12, z21, lt00, lt04, lt05, ps10, ps14, ps15]
        exact ⟨rfl, hM1, hT1, hB, hR, hF, rfl⟩
      by_cases n2 : 8 < y3
      · simp only [wq_7, hV, wp_Pm_data, wp_Md_data, hy, o1, o2, o3, o4, o5, n1, n2, not_true_eq_false, not_false_eq_true, true_implies, false_implies, implies_true, and_true, true_and, forall_eq, if_true, if_false, true_or, or_true, eui, eiu, nb0, nb1, z10, z20, z01, z02, z12, z21, lt00, lt04, lt05, ps10, ps14, ps15]
        exact ⟨rfl, hM1, hT1, hB, hR, hF, rfl⟩
      have n3 : y3 ≤ 8 := by
        rw [Int32.lt_iff_toInt_lt] at n2
        rw [Int32.le_iff_toInt_le]
        omega
      obtain ⟨m, hm, rfl⟩ := nI_of2 (n := 8) (M := 8) (by decide) n1 n3
      have r0 : (600 : Int32) - nI U = nI (600 - U) := by rw [show (600 : Int32) = nI 600 from rfl, pk_sub hU]
      have r3 : nI U + nI m = nI (U + m) := nI_add _ _
      by_cases rm : U + m ≤ 600
      · have r1 : (nI (600 - U) < nI m) = False := eq_false (nI_nlt (by omega) (by omega))
        have r2 : (nI (U + m) ≤ 600) = True := eq_true (nI_le (b := 600) rm (by decide))
        have s1 : (nI U < 0) = False := eq_false (nI_pos (by omega))
        have s2 : (nI U).toNatClampNeg = U := nI_clamp (by omega)
        have s3 : (nI m).toNatClampNeg = m := nI_clamp (by omega)
        have s4 := eq_true rm
        have s5 : (600 < 2147483648) = True := eq_true (by decide)
        have s6 : (24 < 2147483648) = True := eq_true (by decide)
        have hM2 := gM_he (vus' := nI (U + m)) (ghe' := heP ghe U m V) hM (fun i hi => by rw [s2] at hi; unfold heP; rw [if_neg (by omega)]) (by rw [s2, nI_clamp (by omega)]; omega)
        simp only [wq_7, hV, wp_Pm_data, wp_Md_data, hy, ly_can, o1, o2, o3, o4, o5, k1, k2, n1, n2, e0, r0, r1, r2, r3, s1, s2, s3, s4, s5, s6, not_true_eq_false, not_false_eq_true, true_implies, false_implies, implies_true, and_true, true_and, forall_eq, if_true, if_false, true_or, or_true, eui, eiu, nb0, nb1, z10, z20, z01, z02, z12, z21, lt00, lt04, lt05, ps10, ps14, ps15]
        refine dt_loop0 rm (by rw [o2]; exact vp_in_nI (by omega) (by decide)) ghe ?_
        have r5 : nI C + 1 - 1 = nI C := k2
        simp only [o1, o2, o3, o4, o5, r3, r5, k1, not_true_eq_false, not_false_eq_true, true_implies, false_implies, implies_true, and_true, true_and, forall_eq, if_true, if_false, true_or, or_true, eui, eiu, nb0, nb1, z10, z20, z01, z02, z12, z21, lt00, lt04, lt05, ps10, ps14, ps15]
        have g := gS_more (m := m) hx (by omega) cd rm
        rw [r3] at g
        exact ⟨rfl, hM2, hT1, g, hR, ⟨hF.1.put _ _ _, he_ok hF.2 hm V⟩, rfl⟩
      · have r1 : (nI (600 - U) < nI m) = True := eq_true (nI_lt (by omega) (by omega))
        have r2 : (nI (U + m) ≤ 600) = False := eq_false (nI_ge (a := 600) (by omega) (by omega))
        simp only [wq_7, hV, wp_Pm_data, wp_Md_data, hy, ly_can, o1, o2, o3, o4, o5, k1, k2, n1, n2, e0, r0, r1, r2, r3, not_true_eq_false, not_false_eq_true, true_implies, false_implies, implies_true, and_true, true_and, forall_eq, if_true, if_false, true_or, or_true, eui, eiu, nb0, nb1, z10, z20, z01, z02, z12, z21, lt00, lt04, lt05, ps10, ps14, ps15]
        exact ⟨rfl, hM1, hT1, hB, hR, hF, rfl⟩

    · have o5 := eq_false cd
      by_cases n1 : y3 < 0
      · simp only [wq_7, hV, wp_Pm_data, wp_Md_data, hy, o1, o2, o3, o4, o5, n1, not_true_eq_false, not_false_eq_true, true_implies, false_implies, implies_true, and_true, true_and, forall_eq, if_true, if_false, true_or, or_true, eui, eiu, nb0, nb1, z10, z20, z01, z02, z12, z21, lt00, lt04, lt05, ps10, ps14, ps15]
        exact ⟨rfl, hM1, hT1, hB, hR, hF, rfl⟩
      by_cases n2 : 8 < y3
      · simp only [wq_7, hV, wp_Pm_data, wp_Md_data, hy, o1, o2, o3, o4, o5, n1, n2, not_true_eq_false, not_false_eq_true, true_implies, false_implies, implies_true, and_true, true_and, forall_eq, if_true, if_false, true_or, or_true, eui, eiu, nb0, nb1, z10, z20, z01, z02, z12, z21, lt00, lt04, lt05, ps10, ps14, ps15]
        exact ⟨rfl, hM1, hT1, hB, hR, hF, rfl⟩
      simp only [wq_7, hV, wp_Pm_data, wp_Md_data, hy, ly_can, o1, o2, o3, o4, o5, n1, n2, e0, not_true_eq_false, not_false_eq_true, true_implies, false_implies, implies_true, and_true, true_and, forall_eq, if_true, if_false, true_or, or_true, eui, eiu, nb0, nb1, z10, z20, z01, z02, z12, z21, lt00, lt04, lt05, ps10, ps14, ps15]
      exact ⟨rfl, hM1, hT1, hB, hR, hF, rfl⟩

