theorem q_18 : ∀ n, n < 512 → ∀ (trp : Int32) (mC : Int32) (mU : Int32) (mS : Nat → Int32) (mL : Nat → Int32) (mD : Nat → Int32) (tC : Int32) (tU : Int32) (tS : Nat → Int32) (tL : Nat → Int32) (tD : Nat → Int32) (bC : Int32) (bU : Int32) (bS : Nat → Int32) (bL : Nat → Int32) (bD : Nat → Int32) (rC : Int32) (rU : Int32) (rS : Nat → Int32) (rL : Nat → Int32) (rD : Nat → Int32) (fml : Nat → Int32) (fmb : Nat → Int32) (ftl : Nat → Int32) (ftt : Nat → Int32) (fte : Nat → Int32) (fsb : Nat → Int32) (fsr : Nat → Int32) (vth : Int32) (vtp : Int32) (vme : Int32) (vta : Int32) (vpl : Int32) (vel : Int32) (vsg : Int32) (vus : Int32) (vrw : Int32) (vur : Int32) (vwr : Int32) (vch : Int32) (gpg : Nat → Int32) (gli : Nat → Int32) (gty : Nat → Int32) (gen : Nat → Int32) (gtl : Nat → Int32) (gst : Nat → Int32) (gmn : Nat → Int32) (gdr : Nat → Int32) (ghe : Nat → Int32) (grs : Nat → Int32) (grm : Nat → Int32) (grd : Nat → Int32) (ghr : Nat → Int32) (gki : Nat → Int32) (gin : Nat → Int32) (gpl : Nat → Int32) (gle : Nat → Int32) (gso : Nat → Int32) (gva : Nat → Int64) (gck : Nat → Int32) (gci : Nat → Int32) (gcp : Nat → Int32) (gcl : Nat → Int32) (gcs : Nat → Int32) (gcv : Nat → Int32) (fo : Nat → Int64) (y1 y2 : Int32), Inv n trp mC mU mS mL mD tC tU tS tL tD bC bU bS bL bD rC rU rS rL rD fml fmb ftl ftt fte fsb fsr vth vtp vme vta vpl vel vsg vus vrw vur vwr vch gpg gli gty gen gtl gst gmn gdr ghe grs grm grd ghr gki gin gpl gle gso gva gck gci gcp gcl gcs gcv fo → wq_18 (Inv (n + 1)) trp mC mU mS mL mD tC tU tS tL tD bC bU bS bL bD rC rU rS rL rD fml fmb ftl ftt fte fsb fsr vth vtp vme vta vpl vel vsg vus vrw vur vwr vch gpg gli gty gen gtl gst gmn gdr ghe grs grm grd ghr gki gin gpl gle gso gva gck gci gcp gcl gcs gcv fo y1 y2 := by
  intro n hn trp mC mU mS mL mD tC tU tS tL tD bC bU bS bL bD rC rU rS rL rD fml fmb ftl ftt fte fsb fsr vth vtp vme vta vpl vel vsg vus vrw vur vwr vch gpg gli gty gen gtl gst gmn gdr ghe grs grm grd ghr gki gin gpl gle gso gva gck gci gcp gcl gcs gcv fo y1 y2 hI
  obtain ⟨rfl, hM, hT, hB, hR, hF, rfl⟩ := hI
  have hM1 := hM.mono
  have hT1 := hT.mono
  obtain ⟨CM, cM, P, rfl, rfl, hCM, hsM, rfl, rfl, hg, -, -, rfl, rfl, -⟩ := hM
  obtain ⟨CT, cT, T, rfl, rfl, hCT, hsT, rfl, rfl, rfl, -, -, rfl, rfl, rfl, -⟩ := hT
  obtain ⟨CB, UB, SB, MB, hBx⟩ := hB
  obtain ⟨rfl, rfl, hCB, rfl, rfl, -, rfl, rfl, -, hmB, -, -, hbB⟩ := id hBx
  have hB : gS 600 _ _ _ _ _ _ _ _ _ _ := ⟨CB, UB, SB, MB, hBx⟩
  obtain ⟨CR, UR, SR, MR, hRx⟩ := hR
  obtain ⟨rfl, rfl, hCR, rfl, rfl, -, rfl, rfl, -, hmR, -, -, hbR⟩ := id hRx
  have hR : gS 200 _ _ _ _ _ _ _ _ _ _ := ⟨CR, UR, SR, MR, hRx⟩
  simp only [wq_18, wp_Pm_size, wp_Md_size]
  by_cases w0 : y1 = 0
  · have wt := eq_true w0
    rcases has_cases (C := CM) (by omega) y2 with ⟨hk, -⟩ | ⟨k, hk, rfl⟩
    · simp only [wt, hk, not_true_eq_false, not_false_eq_true, true_implies, false_implies, implies_true, and_true, true_and, forall_eq, if_true, if_false, true_or, or_true, eui, eiu, nb0, nb1, z10, z20, z01, z02, z12, z21, lt00, lt04, lt05, ps10, ps14, ps15]
      exact ⟨rfl, hM1, hT1, hB, hR, hF, rfl⟩
    · have hp := psum_le (L := P) hk
      have e0 : ((nI CM).toInt ≤ 6) = True := eq_true (by rw [nI_toInt (by omega)]; omega)
      have e1 := has_yes hk (show CM < 2 ^ 31 by omega)
      have e2 : ly_ln (nI CM) (nI k) (fun k => nI (256 * P k)) = nI (256 * P k) := ln_yes hk (by omega) _
      have e4 : vp_in (nI k) 6 = True := eq_true (vp_in_nI (by omega) (by decide))
      have e5 : (nI k).toNatClampNeg = k := nI_clamp (by omega)
      have e9 : nI (256 * P k) / 256 = nI (P k) := by
        rw [show (256 : Int32) = nI 256 from rfl, pk_div (by omega) (by decide) (by decide)]
        congr 1
        omega
      simp only [wt, e0, e1, e2, e4, e5, e9, hg, not_true_eq_false, not_false_eq_true, true_implies, false_implies, implies_true, and_true, true_and, forall_eq, if_true, if_false, true_or, or_true, eui, eiu, nb0, nb1, z10, z20, z01, z02, z12, z21, lt00, lt04, lt05, ps10, ps14, ps15]
      exact ⟨rfl, hM1, hT1, hB, hR, hF, rfl⟩
  by_cases w1 : y1 = 1
  · have wt := eq_true w1
    rcases has_cases (C := CM) (by omega) y2 with ⟨hk, -⟩ | ⟨k, hk, rfl⟩
    · simp only [w0, wt, hk, not_true_eq_false, not_false_eq_true, true_implies, false_implies, implies_true, and_true, true_and, forall_eq, if_true, if_false, true_or, or_true, eui, eiu, nb0, nb1, z10, z20, z01, z02, z12, z21, lt00, lt04, lt05, ps10, ps14, ps15]
      exact ⟨rfl, hM1, hT1, hB, hR, hF, rfl⟩
    · have hp := psum_le (L := P) hk
      have e0 : ((nI CM).toInt ≤ 6) = True := eq_true (by rw [nI_toInt (by omega)]; omega)
      have e1 := has_yes hk (show CM < 2 ^ 31 by omega)
      have e2 : ly_ln (nI CM) (nI k) (fun k => nI (256 * P k)) = nI (256 * P k) := ln_yes hk (by omega) _
      have e4 : vp_in (nI k) 6 = True := eq_true (vp_in_nI (by omega) (by decide))
      have e5 : (nI k).toNatClampNeg = k := nI_clamp (by omega)
      have e9 : nI (256 * P k) / 256 = nI (P k) := by
        rw [show (256 : Int32) = nI 256 from rfl, pk_div (by omega) (by decide) (by decide)]
        congr 1
        omega
      simp only [w0, wt, e0, e1, e2, e4, e5, e9, hg, not_true_eq_false, not_false_eq_true, true_implies, false_implies, implies_true, and_true, true_and, forall_eq, if_true, if_false, true_or, or_true, eui, eiu, nb0, nb1, z10, z20, z01, z02, z12, z21, lt00, lt04, lt05, ps10, ps14, ps15]
      exact ⟨rfl, hM1, hT1, hB, hR, hF, rfl⟩
  by_cases w2 : y1 = 2
  · have wt := eq_true w2
    rcases has_cases (C := CT) (by omega) y2 with ⟨hk, -⟩ | ⟨k, hk, rfl⟩
    · simp only [w0, w1, wt, hk, not_true_eq_false, not_false_eq_true, true_implies, false_implies, implies_true, and_true, true_and, forall_eq, if_true, if_false, true_or, or_true, eui, eiu, nb0, nb1, z10, z20, z01, z02, z12, z21, lt00, lt04, lt05, ps10, ps14, ps15]
      exact ⟨rfl, hM1, hT1, hB, hR, hF, rfl⟩
    · have e0 : ((nI CT).toInt ≤ 6) = True := eq_true (by rw [nI_toInt (by omega)]; omega)
      have e1 := has_yes hk (show CT < 2 ^ 31 by omega)
      have e2 : ly_ln (nI CT) (nI k) (fun k => nI (T k)) = nI (T k) := ln_yes hk (by omega) _
      have e4 : vp_in (nI k) 6 = True := eq_true (vp_in_nI (by omega) (by decide))
      have e5 : (nI k).toNatClampNeg = k := nI_clamp (by omega)
      simp only [w0, w1, wt, e0, e1, e2, e4, e5, not_true_eq_false, not_false_eq_true, true_implies, false_implies, implies_true, and_true, true_and, forall_eq, if_true, if_false, true_or, or_true, eui, eiu, nb0, nb1, z10, z20, z01, z02, z12, z21, lt00, lt04, lt05, ps10, ps14, ps15]
      exact ⟨rfl, hM1, hT1, hB, hR, hF, rfl⟩
  by_cases w3 : y1 = 3
  · have wt := eq_true w3
    rcases has_cases (C := CT) (by omega) y2 with ⟨hk, -⟩ | ⟨k, hk, rfl⟩
    · simp only [w0, w1, w2, wt, hk, not_true_eq_false, not_false_eq_true, true_implies, false_implies, implies_true, and_true, true_and, forall_eq, if_true, if_false, true_or, or_true, eui, eiu, nb0, nb1, z10, z20, z01, z02, z12, z21, lt00, lt04, lt05, ps10, ps14, ps15]
      exact ⟨rfl, hM1, hT1, hB, hR, hF, rfl⟩
    · have e0 : ((nI CT).toInt ≤ 6) = True := eq_true (by rw [nI_toInt (by omega)]; omega)
      have e1 := has_yes hk (show CT < 2 ^ 31 by omega)
      have e2 : ly_ln (nI CT) (nI k) (fun k => nI (T k)) = nI (T k) := ln_yes hk (by omega) _
      have e4 : vp_in (nI k) 6 = True := eq_true (vp_in_nI (by omega) (by decide))
      have e5 : (nI k).toNatClampNeg = k := nI_clamp (by omega)
      simp only [w0, w1, w2, wt, e0, e1, e2, e4, e5, not_true_eq_false, not_false_eq_true, true_implies, false_implies, implies_true, and_true, true_and, forall_eq, if_true, if_false, true_or, or_true, eui, eiu, nb0, nb1, z10, z20, z01, z02, z12, z21, lt00, lt04, lt05, ps10, ps14, ps15]
      exact ⟨rfl, hM1, hT1, hB, hR, hF, rfl⟩
  by_cases w4 : y1 = 4
  · have wt := eq_true w4
    rcases has_cases (C := CT) (by omega) y2 with ⟨hk, -⟩ | ⟨k, hk, rfl⟩
    · simp only [w0, w1, w2, w3, wt, hk, not_true_eq_false, not_false_eq_true, true_implies, false_implies, implies_true, and_true, true_and, forall_eq, if_true, if_false, true_or, or_true, eui, eiu, nb0, nb1, z10, z20, z01, z02, z12, z21, lt00, lt04, lt05, ps10, ps14, ps15]
      exact ⟨rfl, hM1, hT1, hB, hR, hF, rfl⟩
    · have e0 : ((nI CT).toInt ≤ 6) = True := eq_true (by rw [nI_toInt (by omega)]; omega)
      have e1 := has_yes hk (show CT < 2 ^ 31 by omega)
      have e2 : ly_ln (nI CT) (nI k) (fun k => nI (T k)) = nI (T k) := ln_yes hk (by omega) _
      have e4 : vp_in (nI k) 6 = True := eq_true (vp_in_nI (by omega) (by decide))
      have e5 : (nI k).toNatClampNeg = k := nI_clamp (by omega)
      simp only [w0, w1, w2, w3, wt, e0, e1, e2, e4, e5, not_true_eq_false, not_false_eq_true, true_implies, false_implies, implies_true, and_true, true_and, forall_eq, if_true, if_false, true_or, or_true, eui, eiu, nb0, nb1, z10, z20, z01, z02, z12, z21, lt00, lt04, lt05, ps10, ps14, ps15]
      exact ⟨rfl, hM1, hT1, hB, hR, hF, rfl⟩
  by_cases w5 : y1 = 5
  · have wt := eq_true w5
    rcases has_cases (C := CB) (by omega) y2 with ⟨hs0, hs1⟩ | ⟨k, hk, rfl⟩
    · rcases hs1 with q | ⟨q, q2⟩
      · simp only [w0, w1, w2, w3, w4, wt, hs0, q, not_true_eq_false, not_false_eq_true, true_implies, false_implies, implies_true, and_true, true_and, forall_eq, if_true, if_false, true_or, or_true, eui, eiu, nb0, nb1, z10, z20, z01, z02, z12, z21, lt00, lt04, lt05, ps10, ps14, ps15]
        exact ⟨rfl, hM1, hT1, hB, hR, hF, rfl⟩
      · have q3 : ¬ y2 < nI CB := by
          rw [Int32.le_iff_toInt_le] at q2
          rw [Int32.lt_iff_toInt_lt]
          omega
        simp only [w0, w1, w2, w3, w4, wt, hs0, q, q3, not_true_eq_false, not_false_eq_true, true_implies, false_implies, implies_true, and_true, true_and, forall_eq, if_true, if_false, true_or, or_true, eui, eiu, nb0, nb1, z10, z20, z01, z02, z12, z21, lt00, lt04, lt05, ps10, ps14, ps15]
        exact ⟨rfl, hM1, hT1, hB, hR, hF, rfl⟩
    · have e0 : ((nI CB).toInt ≤ 24) = True := eq_true (by rw [nI_toInt (by omega)]; omega)
      have e1 := has_yes hk (show CB < 2 ^ 31 by omega)
      have e2 : ly_ln (nI CB) (nI k) bL = bL k := ln_yes hk (by omega) _
      have e3 : (nI k < 0) = False := eq_false (nI_pos (by omega))
      have e4 : vp_in (nI k) 24 = True := eq_true (vp_in_nI (by omega) (by decide))
      have e5 : (nI k).toNatClampNeg = k := nI_clamp (by omega)
      have e6 : (nI k < nI CB) = True := eq_true (nI_lt hk (by omega))
      by_cases hd : bD k = 0
      · have hl : bL k = gmn k := by rw [hbB k, if_pos hd]
        have hd := eq_true hd
        simp only [w0, w1, w2, w3, w4, wt, e0, e1, e2, e3, e4, e5, e6, hd, hl, not_true_eq_false, not_false_eq_true, true_implies, false_implies, implies_true, and_true, true_and, forall_eq, if_true, if_false, true_or, or_true, eui, eiu, nb0, nb1, z10, z20, z01, z02, z12, z21, lt00, lt04, lt05, ps10, ps14, ps15]
        exact ⟨rfl, hM1, hT1, hB, hR, hF, rfl⟩
      · have hl : bL k = 0 := by rw [hbB k, if_neg hd]
        have hd := eq_false hd
        simp only [w0, w1, w2, w3, w4, wt, e0, e1, e2, e3, e4, e5, e6, hd, hl, not_true_eq_false, not_false_eq_true, true_implies, false_implies, implies_true, and_true, true_and, forall_eq, if_true, if_false, true_or, or_true, eui, eiu, nb0, nb1, z10, z20, z01, z02, z12, z21, lt00, lt04, lt05, ps10, ps14, ps15]
        exact ⟨rfl, hM1, hT1, hB, hR, hF, rfl⟩
  by_cases w6 : y1 = 6
  · have wt := eq_true w6
    rcases has_cases (C := CR) (by omega) y2 with ⟨hs0, hs1⟩ | ⟨k, hk, rfl⟩
    · rcases hs1 with q | ⟨q, q2⟩
      · simp only [w0, w1, w2, w3, w4, w5, wt, hs0, q, not_true_eq_false, not_false_eq_true, true_implies, false_implies, implies_true, and_true, true_and, forall_eq, if_true, if_false, true_or, or_true, eui, eiu, nb0, nb1, z10, z20, z01, z02, z12, z21, lt00, lt04, lt05, ps10, ps14, ps15]
        exact ⟨rfl, hM1, hT1, hB, hR, hF, rfl⟩
      · have q3 : ¬ y2 < nI CR := by
          rw [Int32.le_iff_toInt_le] at q2
          rw [Int32.lt_iff_toInt_lt]
          omega
        simp only [w0, w1, w2, w3, w4, w5, wt, hs0, q, q3, not_true_eq_false, not_false_eq_true, true_implies, false_implies, implies_true, and_true, true_and, forall_eq, if_true, if_false, true_or, or_true, eui, eiu, nb0, nb1, z10, z20, z01, z02, z12, z21, lt00, lt04, lt05, ps10, ps14, ps15]
        exact ⟨rfl, hM1, hT1, hB, hR, hF, rfl⟩
    · have e0 : ((nI CR).toInt ≤ 24) = True := eq_true (by rw [nI_toInt (by omega)]; omega)
      have e1 := has_yes hk (show CR < 2 ^ 31 by omega)
      have e2 : ly_ln (nI CR) (nI k) rL = rL k := ln_yes hk (by omega) _
      have e3 : (nI k < 0) = False := eq_false (nI_pos (by omega))
      have e4 : vp_in (nI k) 24 = True := eq_true (vp_in_nI (by omega) (by decide))
      have e5 : (nI k).toNatClampNeg = k := nI_clamp (by omega)
      have e6 : (nI k < nI CR) = True := eq_true (nI_lt hk (by omega))
      by_cases hd : rD k = 0
      · have hl : rL k = grm k := by rw [hbR k, if_pos hd]
        have hd := eq_true hd
        simp only [w0, w1, w2, w3, w4, w5, wt, e0, e1, e2, e3, e4, e5, e6, hd, hl, not_true_eq_false, not_false_eq_true, true_implies, false_implies, implies_true, and_true, true_and, forall_eq, if_true, if_false, true_or, or_true, eui, eiu, nb0, nb1, z10, z20, z01, z02, z12, z21, lt00, lt04, lt05, ps10, ps14, ps15]
        exact ⟨rfl, hM1, hT1, hB, hR, hF, rfl⟩
      · have hl : rL k = 0 := by rw [hbR k, if_neg hd]
        have hd := eq_false hd
        simp only [w0, w1, w2, w3, w4, w5, wt, e0, e1, e2, e3, e4, e5, e6, hd, hl, not_true_eq_false, not_false_eq_true, true_implies, false_implies, implies_true, and_true, true_and, forall_eq, if_true, if_false, true_or, or_true, eui, eiu, nb0, nb1, z10, z20, z01, z02, z12, z21, lt00, lt04, lt05, ps10, ps14, ps15]
        exact ⟨rfl, hM1, hT1, hB, hR, hF, rfl⟩
  by_cases w7 : y1 = 7
  · have wt := eq_true w7
    simp only [w0, w1, w2, w3, w4, w5, w6, wt, left_m hsM, not_true_eq_false, not_false_eq_true, true_implies, false_implies, implies_true, and_true, true_and, forall_eq, if_true, if_false, true_or, or_true, eui, eiu, nb0, nb1, z10, z20, z01, z02, z12, z21, lt00, lt04, lt05, ps10, ps14, ps15]
    exact ⟨rfl, hM1, hT1, hB, hR, hF, rfl⟩
  by_cases w8 : y1 = 8
  · have wt := eq_true w8
    simp only [w0, w1, w2, w3, w4, w5, w6, w7, wt, left_t hsT, not_true_eq_false, not_false_eq_true, true_implies, false_implies, implies_true, and_true, true_and, forall_eq, if_true, if_false, true_or, or_true, eui, eiu, nb0, nb1, z10, z20, z01, z02, z12, z21, lt00, lt04, lt05, ps10, ps14, ps15]
    exact ⟨rfl, hM1, hT1, hB, hR, hF, rfl⟩
  by_cases w9 : y1 = 9
  · have wt := eq_true w9
    simp only [w0, w1, w2, w3, w4, w5, w6, w7, w8, wt, not_true_eq_false, not_false_eq_true, true_implies, false_implies, implies_true, and_true, true_and, forall_eq, if_true, if_false, true_or, or_true, eui, eiu, nb0, nb1, z10, z20, z01, z02, z12, z21, lt00, lt04, lt05, ps10, ps14, ps15]
    exact ⟨rfl, hM1, hT1, hB, hR, hF, rfl⟩
  by_cases w10 : y1 = 10
  · have wt := eq_true w10
    simp only [w0, w1, w2, w3, w4, w5, w6, w7, w8, w9, wt, not_true_eq_false, not_false_eq_true, true_implies, false_implies, implies_true, and_true, true_and, forall_eq, if_true, if_false, true_or, or_true, eui, eiu, nb0, nb1, z10, z20, z01, z02, z12, z21, lt00, lt04, lt05, ps10, ps14, ps15]
    exact ⟨rfl, hM1, hT1, hB, hR, hF, rfl⟩
  by_cases w11 : y1 = 11
  · have wt := eq_true w11
    simp only [w0, w1, w2, w3, w4, w5, w6, w7, w8, w9, w10, wt, not_true_eq_false, not_false_eq_true, true_implies, false_implies, implies_true, and_true, true_and, forall_eq, if_true, if_false, true_or, or_true, eui, eiu, nb0, nb1, z10, z20, z01, z02, z12, z21, lt00, lt04, lt05, ps10, ps14, ps15]
    exact ⟨rfl, hM1, hT1, hB, hR, hF, rfl⟩
  by_cases w12 : y1 = 12
  · have wt := eq_true w12
    simp only [w0, w1, w2, w3, w4, w5, w6, w7, w8, w9, w10, w11, wt, not_true_eq_false, not_false_eq_true, true_implies, false_implies, implies_true, and_true, true_and, forall_eq, if_true, if_false, true_or, or_true, eui, eiu, nb0, nb1, z10, z20, z01, z02, z12, z21, lt00, lt04, lt05, ps10, ps14, ps15]
    exact ⟨rfl, hM1, hT1, hB, hR, hF, rfl⟩
  simp only [w0, w1, w2, w3, w4, w5, w6, w7, w8, w9, w10, w11, w12, not_true_eq_false, not_false_eq_true, true_implies, false_implies, implies_true, and_true, true_and, forall_eq, if_true, if_false, true_or, or_true, eui, eiu, nb0, nb1, z10, z20, z01, z02, z12, z21, lt00, lt04, lt05, ps10, ps14, ps15]
  exact ⟨rfl, hM1, hT1, hB, hR, hF, rfl⟩
