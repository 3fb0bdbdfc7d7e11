theorem q_9 : ∀ n, n < 512 → ∀ (trp : Int32) (mC : Int32) (mU : Int32) (mS : Nat → Int32) (mL : Nat → Int32) (mD : Nat → Int32) (tC : Int32) (tU : Int32) (tS : Nat → Int32) (tL : Nat → Int32) (tD : Nat → Int32) (bC : Int32) (bU : Int32) (bS : Nat → Int32) (bL : Nat → Int32) (bD : Nat → Int32) (rC : Int32) (rU : Int32) (rS : Nat → Int32) (rL : Nat → Int32) (rD : Nat → Int32) (fml : Nat → Int32) (fmb : Nat → Int32) (ftl : Nat → Int32) (ftt : Nat → Int32) (fte : Nat → Int32) (fsb : Nat → Int32) (fsr : Nat → Int32) (vth : Int32) (vtp : Int32) (vme : Int32) (vta : Int32) (vpl : Int32) (vel : Int32) (vsg : Int32) (vus : Int32) (vrw : Int32) (vur : Int32) (vwr : Int32) (vch : Int32) (gpg : Nat → Int32) (gli : Nat → Int32) (gty : Nat → Int32) (gen : Nat → Int32) (gtl : Nat → Int32) (gst : Nat → Int32) (gmn : Nat → Int32) (gdr : Nat → Int32) (ghe : Nat → Int32) (grs : Nat → Int32) (grm : Nat → Int32) (grd : Nat → Int32) (ghr : Nat → Int32) (gki : Nat → Int32) (gin : Nat → Int32) (gpl : Nat → Int32) (gle : Nat → Int32) (gso : Nat → Int32) (gva : Nat → Int64) (gck : Nat → Int32) (gci : Nat → Int32) (gcp : Nat → Int32) (gcl : Nat → Int32) (gcs : Nat → Int32) (gcv : Nat → Int32) (fo : Nat → Int64) (y1 y2 y3 : Int32), Inv n trp mC mU mS mL mD tC tU tS tL tD bC bU bS bL bD rC rU rS rL rD fml fmb ftl ftt fte fsb fsr vth vtp vme vta vpl vel vsg vus vrw vur vwr vch gpg gli gty gen gtl gst gmn gdr ghe grs grm grd ghr gki gin gpl gle gso gva gck gci gcp gcl gcs gcv fo → wq_9 (Inv (n + 1)) trp mC mU mS mL mD tC tU tS tL tD bC bU bS bL bD rC rU rS rL rD fml fmb ftl ftt fte fsb fsr vth vtp vme vta vpl vel vsg vus vrw vur vwr vch gpg gli gty gen gtl gst gmn gdr ghe grs grm grd ghr gki gin gpl gle gso gva gck gci gcp gcl gcs gcv fo y1 y2 y3 := by
  intro n hn trp mC mU mS mL mD tC tU tS tL tD bC bU bS bL bD rC rU rS rL rD fml fmb ftl ftt fte fsb fsr vth vtp vme vta vpl vel vsg vus vrw vur vwr vch gpg gli gty gen gtl gst gmn gdr ghe grs grm grd ghr gki gin gpl gle gso gva gck gci gcp gcl gcs gcv fo y1 y2 y3 hI
  obtain ⟨rfl, hM, ⟨C, c, T, hT⟩, hB, hR, hF, rfl⟩ := hI
  have hT1 := gT.mono ⟨C, c, T, hT⟩
  replace hM := hM.mono
  obtain ⟨rfl, rfl, hC, hs, rfl, rfl, rfl, hz, hS, rfl, rfl, rfl, rfl, hc, hw, hrow, hout⟩ := id hT
  have e0 : ((nI C).toInt ≤ 6) = True := eq_true (by rw [nI_toInt (by omega)]; omega)
  have e8 : vp_in (nI c) 520 = True := eq_true (vp_in_nI (by omega) (by decide))
  simp only [wq_9, wp_Pm_table, wp_Md_table]
  have eL := left_t hs
  by_cases h6 : C = 6
  · have g1 : ly_full (nI C) 6 = 1 := full_yes (by omega) (by omega)
    have g2 : (nI C = 6) = True := eq_true (by rw [h6]; rfl)
    simp only [g1, g2, not_true_eq_false, not_false_eq_true, true_implies, false_implies, implies_true, and_true, true_and, forall_eq, if_true, if_false, true_or, or_true, eui, eiu, nb0, nb1, z10, z20, z01, z02, z12, z21, lt00, lt04, lt05, ps10, ps14, ps15]
    exact ⟨rfl, hM, hT1, hB, hR, hF, rfl⟩
  · have g1 : ly_full (nI C) 6 = 0 := full_no (by omega) (by omega)
    have g2 : (nI C = 6) = False := eq_false (fun q => h6 ((nI_eq (b := 6) (by omega) (by omega)).mp q))
    by_cases ty : y1 = 112 ∨ y1 = 111
    · by_cases a1 : y2 < 0
      · rcases ty with q | q
        · simp only [g1, g2, eq_true q, a1, not_true_eq_false, not_false_eq_true, true_implies, false_implies, implies_true, and_true, true_and, forall_eq, if_true, if_false, true_or, or_true, eui, eiu, nb0, nb1, z10, z20, z01, z02, z12, z21, lt00, lt04, lt05, ps10, ps14, ps15]
          exact ⟨rfl, hM, hT1, hB, hR, hF, rfl⟩
        · have q2 : (y1 = 112) = False := eq_false (fun z => by rw [q] at z; exact absurd z (by decide))
          simp only [g1, g2, eq_true q, q2, a1, not_true_eq_false, not_false_eq_true, true_implies, false_implies, implies_true, and_true, true_and, forall_eq, if_true, if_false, true_or, or_true, eui, eiu, nb0, nb1, z10, z20, z01, z02, z12, z21, lt00, lt04, lt05, ps10, ps14, ps15]
          exact ⟨rfl, hM, hT1, hB, hR, hF, rfl⟩
      by_cases a2 : 0 < lg_cmp y2.toInt64 (u32 y3)
      · rcases ty with q | q
        · simp only [g1, g2, eq_true q, a1, a2, not_true_eq_false, not_false_eq_true, true_implies, false_implies, implies_true, and_true, true_and, forall_eq, if_true, if_false, true_or, or_true, eui, eiu, nb0, nb1, z10, z20, z01, z02, z12, z21, lt00, lt04, lt05, ps10, ps14, ps15]
          exact ⟨rfl, hM, hT1, hB, hR, hF, rfl⟩
        · have q2 : (y1 = 112) = False := eq_false (fun z => by rw [q] at z; exact absurd z (by decide))
          simp only [g1, g2, eq_true q, q2, a1, a2, not_true_eq_false, not_false_eq_true, true_implies, false_implies, implies_true, and_true, true_and, forall_eq, if_true, if_false, true_or, or_true, eui, eiu, nb0, nb1, z10, z20, z01, z02, z12, z21, lt00, lt04, lt05, ps10, ps14, ps15]
          exact ⟨rfl, hM, hT1, hB, hR, hF, rfl⟩
      by_cases a4 : y2 ≤ nI (200 - psum T C)
      · have v1 : vp_in (nI C) 6 = True := eq_true (vp_in_nI (by omega) (by decide))
        have v2 : nI C + 1 - 1 = nI C := by rw [nI_1]; exact nI_pred C
        have v3 : (nI C).toNatClampNeg = C := nI_clamp (by omega)
        obtain ⟨p, hp, rfl⟩ := nI_of a1
        have a5 := a4
        rw [nI_leI hp (by omega)] at a5
        have c1 : (nI (psum T C) < 0) = False := eq_false (nI_pos (by omega))
        have c2 : (nI (psum T C) ≤ nI (psum T C) + nI p) = True := eq_true (by rw [nI_add]; exact nI_le (by omega) (by omega))
        have c3 : (nI (psum T C) + nI p ≤ nI 200) = True := eq_true (by rw [nI_add]; exact nI_le (by omega) (by decide))
        have c4 : (nI (psum T C)).toNatClampNeg = psum T C := nI_clamp (by omega)
        have c5 : (nI (psum T C) + nI p).toNatClampNeg = psum T C + p := by rw [nI_add]; exact nI_clamp (by omega)
        have c6 : (200 < 2147483648) = True := eq_true (by decide)
        rcases ty with q | q
        · simp only [g1, g2, eq_true q, a1, a2, a4, eL, v1, v2, v3, c1, c2, c3, c4, c5, c6, not_true_eq_false, not_false_eq_true, true_implies, false_implies, implies_true, and_true, true_and, forall_eq, if_true, if_false, true_or, or_true, eui, eiu, nb0, nb1, z10, z20, z01, z02, z12, z21, lt00, lt04, lt05, ps10, ps14, ps15]
          exact ⟨rfl, hM, gT_app hT (by omega) a5 y3 y1, hB, hR, hF, rfl⟩
        · have q2 : (y1 = 112) = False := eq_false (fun z => by rw [q] at z; exact absurd z (by decide))
          simp only [g1, g2, eq_true q, q2, a1, a2, a4, eL, v1, v2, v3, c1, c2, c3, c4, c5, c6, not_true_eq_false, not_false_eq_true, true_implies, false_implies, implies_true, and_true, true_and, forall_eq, if_true, if_false, true_or, or_true, eui, eiu, nb0, nb1, z10, z20, z01, z02, z12, z21, lt00, lt04, lt05, ps10, ps14, ps15]
          exact ⟨rfl, hM, gT_app hT (by omega) a5 y3 y1, hB, hR, hF, rfl⟩
      · rcases ty with q | q
        · simp only [g1, g2, eq_true q, a1, a2, a4, eL, not_true_eq_false, not_false_eq_true, true_implies, false_implies, implies_true, and_true, true_and, forall_eq, if_true, if_false, true_or, or_true, eui, eiu, nb0, nb1, z10, z20, z01, z02, z12, z21, lt00, lt04, lt05, ps10, ps14, ps15]
          exact ⟨rfl, hM, hT1, hB, hR, hF, rfl⟩
        · have q2 : (y1 = 112) = False := eq_false (fun z => by rw [q] at z; exact absurd z (by decide))
          simp only [g1, g2, eq_true q, q2, a1, a2, a4, eL, not_true_eq_false, not_false_eq_true, true_implies, false_implies, implies_true, and_true, true_and, forall_eq, if_true, if_false, true_or, or_true, eui, eiu, nb0, nb1, z10, z20, z01, z02, z12, z21, lt00, lt04, lt05, ps10, ps14, ps15]
          exact ⟨rfl, hM, hT1, hB, hR, hF, rfl⟩
    · have q1 : ¬ y1 = 112 := fun z => ty (Or.inl z)
      have q2 : ¬ y1 = 111 := fun z => ty (Or.inr z)
      simp only [g1, g2, q1, q2, not_true_eq_false, not_false_eq_true, true_implies, false_implies, implies_true, and_true, true_and, forall_eq, if_true, if_false, true_or, or_true, eui, eiu, nb0, nb1, z10, z20, z01, z02, z12, z21, lt00, lt04, lt05, ps10, ps14, ps15]
      exact ⟨rfl, hM, hT1, hB, hR, hF, rfl⟩
theorem q_10 : ∀ n, n < 512 → ∀ (trp : Int32) (mC : Int32) (mU : Int32) (mS : Nat → Int32) (mL : Nat → Int32) (mD : Nat → Int32) (tC : Int32) (tU : Int32) (tS : Nat → Int32) (tL : Nat → Int32) (tD : Nat → Int32) (bC : Int32) (bU : Int32) (bS : Nat → Int32) (bL : Nat → Int32) (bD : Nat → Int32) (rC : Int32) (rU : Int32) (rS : Nat → Int32) (rL : Nat → Int32) (rD : Nat → Int32) (fml : Nat → Int32) (fmb : Nat → Int32) (ftl : Nat → Int32) (ftt : Nat → Int32) (fte : Nat → Int32) (fsb : Nat → Int32) (fsr : Nat → Int32) (vth : Int32) (vtp : Int32) (vme : Int32) (vta : Int32) (vpl : Int32) (vel : Int32) (vsg : Int32) (vus : Int32) (vrw : Int32) (vur : Int32) (vwr : Int32) (vch : Int32) (gpg : Nat → Int32) (gli : Nat → Int32) (gty : Nat → Int32) (gen : Nat → Int32) (gtl : Nat → Int32) (gst : Nat → Int32) (gmn : Nat → Int32) (gdr : Nat → Int32) (ghe : Nat → Int32) (grs : Nat → Int32) (grm : Nat → Int32) (grd : Nat → Int32) (ghr : Nat → Int32) (gki : Nat → Int32) (gin : Nat → Int32) (gpl : Nat → Int32) (gle : Nat → Int32) (gso : Nat → Int32) (gva : Nat → Int64) (gck : Nat → Int32) (gci : Nat → Int32) (gcp : Nat → Int32) (gcl : Nat → Int32) (gcs : Nat → Int32) (gcv : Nat → Int32) (fo : Nat → Int64) (y1 y2 : Int32), Inv n trp mC mU mS mL mD tC tU tS tL tD bC bU bS bL bD rC rU rS rL rD fml fmb ftl ftt fte fsb fsr vth vtp vme vta vpl vel vsg vus vrw vur vwr vch gpg gli gty gen gtl gst gmn gdr ghe grs grm grd ghr gki gin gpl gle gso gva gck gci gcp gcl gcs gcv fo → wq_10 (Inv (n + 1)) trp mC mU mS mL mD tC tU tS tL tD bC bU bS bL bD rC rU rS rL rD fml fmb ftl ftt fte fsb fsr vth vtp vme vta vpl vel vsg vus vrw vur vwr vch gpg gli gty gen gtl gst gmn gdr ghe grs grm grd ghr gki gin gpl gle gso gva gck gci gcp gcl gcs gcv fo y1 y2 := by
  intro n hn trp mC mU mS mL mD tC tU tS tL tD bC bU bS bL bD rC rU rS rL rD fml fmb ftl ftt fte fsb fsr vth vtp vme vta vpl vel vsg vus vrw vur vwr vch gpg gli gty gen gtl gst gmn gdr ghe grs grm grd ghr gki gin gpl gle gso gva gck gci gcp gcl gcs gcv fo y1 y2 hI
  obtain ⟨rfl, hM, ⟨C, c, T, hT⟩, hB, hR, hF, rfl⟩ := hI
  have hT1 := gT.mono ⟨C, c, T, hT⟩
  replace hM := hM.mono
  obtain ⟨rfl, rfl, hC, hs, rfl, rfl, rfl, hz, hS, rfl, rfl, rfl, rfl, hc, hw, hrow, hout⟩ := id hT
  have e0 : ((nI C).toInt ≤ 6) = True := eq_true (by rw [nI_toInt (by omega)]; omega)
  have e8 : vp_in (nI c) 520 = True := eq_true (vp_in_nI (by omega) (by decide))
  have hU : vur.toNatClampNeg ≤ 200 := by
    obtain ⟨CB, U, S, M, -, -, -, -, rfl, hU, -⟩ := hR
    rw [nI_clamp (by omega)]
    exact hU
  simp only [wq_10, wp_Lw_get, wp_Pm_get, wp_Md_get, wp_Md_thrown]
  obtain ⟨t, ht, rfl⟩ := un_ex y2
  rcases has_cases (C := C) (by omega) y1 with ⟨hk, -⟩ | ⟨k, hk, rfl⟩
  · simp only [hk, not_true_eq_false, not_false_eq_true, true_implies, false_implies, implies_true, and_true, true_and, forall_eq, if_true, if_false, true_or, or_true, eui, eiu, nb0, nb1, z10, z20, z01, z02, z12, z21, lt00, lt04, lt05, ps10, ps14, ps15]
    exact ⟨rfl, hM, hT1, hB, hR, hF, rfl⟩
  · have hp := psum_le (L := T) hk
    have e1 := has_yes hk (show C < 2 ^ 31 by omega)
    have e2 : ly_ln (nI C) (nI k) (fun k => nI (T k)) = nI (T k) := ln_yes hk (by omega) _
    have e3 : ly_st (nI C) (nI k) tS = nI (psum T k) := by rw [st_yes hk (by omega), hS k hk]
    have e4 : vp_in (nI k) 6 = True := eq_true (vp_in_nI (by omega) (by decide))
    have e5 : (nI k).toNatClampNeg = k := nI_clamp (by omega)
    have e6 : (nI (T k)).toInt64 = lN (T k) := nI_l (by omega)
    have d3 := e1s ht
    by_cases qF : t + 1 ≤ T k
    · have a1 := cT (show t + 1 < 2 ^ 63 by omega) (show T k < 2 ^ 63 by omega) qF
      have a2 := gF (show t + 1 < 2 ^ 63 by omega) (show T k < 2 ^ 63 by omega) qF
      have vin : vp_in 0 1 = True := eq_true (vp_in_nI (n := 0) (N := 1) (by decide) (by decide))
      have ez : (0 : Int32).toNatClampNeg = 0 := rfl
      have c1 : vp_in (nI (psum T k + t)) 200 = True := eq_true (vp_in_nI (by omega) (by decide))
      have c2 : (nI (psum T k + t)).toNatClampNeg = psum T k + t := nI_clamp (by omega)
      have c3 : (nI c < 0) = False := eq_false (nI_pos (by omega))
      have c4 : (nI c).toNatClampNeg = c := nI_clamp (by omega)
      have c5 : (c ≤ 520) = True := eq_true (by omega)
      have c6 : wr_ok gck gcl gcs c 200 = True := eq_true (fun w1 h1 h2 b1 h3 h4 => vin_mono (hw w1 h1 h2 b1 h3 h4) hU)
      have c7 : fte (psum T k + t) = enA gck gci gcp gcl gcs gcv fsr c (nI k) (nI t) := hrow k hk t (by omega)
      have u : ∀ x : Int64, (lg_cmp (vp_updL fo 0 x 0) x = 0) = True := fun x => eq_true ((lg_cmp_eq _ _).mpr (if_pos rfl))
      simp only [e0, e1, e2, e3, e4, e5, e6, e8, d3, a1, a2, u32_i, nI_add, vin, ez, c1, c2, c3, c4, c5, c6, c7, u, not_true_eq_false, not_false_eq_true, true_implies, false_implies, implies_true, and_true, true_and, forall_eq, if_true, if_false, true_or, or_true, eui, eiu, nb0, nb1, z10, z20, z01, z02, z12, z21, lt00, lt04, lt05, ps10, ps14, ps15]
      exact ⟨rfl, hM, hT1, hB, hR, hF, rfl⟩
    · have a1 := cF (show t + 1 < 2 ^ 63 by omega) (show T k < 2 ^ 63 by omega) qF
      have a2 := gT' (show t + 1 < 2 ^ 63 by omega) (show T k < 2 ^ 63 by omega) qF
      simp only [e0, e1, e2, e3, e4, e5, e6, e8, d3, a1, a2, not_true_eq_false, not_false_eq_true, true_implies, false_implies, implies_true, and_true, true_and, forall_eq, if_true, if_false, true_or, or_true, eui, eiu, nb0, nb1, z10, z20, z01, z02, z12, z21, lt00, lt04, lt05, ps10, ps14, ps15]
      exact ⟨rfl, hM, hT1, hB, hR, hF, rfl⟩
theorem q_11 : ∀ n, n < 512 → ∀ (trp : Int32) (mC : Int32) (mU : Int32) (mS : Nat → Int32) (mL : Nat → Int32) (mD : Nat → Int32) (tC : Int32) (tU : Int32) (tS : Nat → Int32) (tL : Nat → Int32) (tD : Nat → Int32) (bC : Int32) (bU : Int32) (bS : Nat → Int32) (bL : Nat → Int32) (bD : Nat → Int32) (rC : Int32) (rU : Int32) (rS : Nat → Int32) (rL : Nat → Int32) (rD : Nat → Int32) (fml : Nat → Int32) (fmb : Nat → Int32) (ftl : Nat → Int32) (ftt : Nat → Int32) (fte : Nat → Int32) (fsb : Nat → Int32) (fsr : Nat → Int32) (vth : Int32) (vtp : Int32) (vme : Int32) (vta : Int32) (vpl : Int32) (vel : Int32) (vsg : Int32) (vus : Int32) (vrw : Int32) (vur : Int32) (vwr : Int32) (vch : Int32) (gpg : Nat → Int32) (gli : Nat → Int32) (gty : Nat → Int32) (gen : Nat → Int32) (gtl : Nat → Int32) (gst : Nat → Int32) (gmn : Nat → Int32) (gdr : Nat → Int32) (ghe : Nat → Int32) (grs : Nat → Int32) (grm : Nat → Int32) (grd : Nat → Int32) (ghr : Nat → Int32) (gki : Nat → Int32) (gin : Nat → Int32) (gpl : Nat → Int32) (gle : Nat → Int32) (gso : Nat → Int32) (gva : Nat → Int64) (gck : Nat → Int32) (gci : Nat → Int32) (gcp : Nat → Int32) (gcl : Nat → Int32) (gcs : Nat → Int32) (gcv : Nat → Int32) (fo : Nat → Int64) (y1 y2 y3 : Int32), Inv n trp mC mU mS mL mD tC tU tS tL tD bC bU bS bL bD rC rU rS rL rD fml fmb ftl ftt fte fsb fsr vth vtp vme vta vpl vel vsg vus vrw vur vwr vch gpg gli gty gen gtl gst gmn gdr ghe grs grm grd ghr gki gin gpl gle gso gva gck gci gcp gcl gcs gcv fo → wq_11 (Inv (n + 1)) trp mC mU mS mL mD tC tU tS tL tD bC bU bS bL bD rC rU rS rL rD fml fmb ftl ftt fte fsb fsr vth vtp vme vta vpl vel vsg vus vrw vur vwr vch gpg gli gty gen gtl gst gmn gdr ghe grs grm grd ghr gki gin gpl gle gso gva gck gci gcp gcl gcs gcv fo y1 y2 y3 := by
  intro n hn trp mC mU mS mL mD tC tU tS tL tD bC bU bS bL bD rC rU rS rL rD fml fmb ftl ftt fte fsb fsr vth vtp vme vta vpl vel vsg vus vrw vur vwr vch gpg gli gty gen gtl gst gmn gdr ghe grs grm grd ghr gki gin gpl gle gso gva gck gci gcp gcl gcs gcv fo y1 y2 y3 hI
  obtain ⟨rfl, hM, ⟨C, c, T, hT⟩, hB, hR, hF, rfl⟩ := hI
  have hT1 := gT.mono ⟨C, c, T, hT⟩
  replace hM := hM.mono
  obtain ⟨rfl, rfl, hC, hs, rfl, rfl, rfl, hz, hS, rfl, rfl, rfl, rfl, hc, hw, hrow, hout⟩ := id hT
  have e0 : ((nI C).toInt ≤ 6) = True := eq_true (by rw [nI_toInt (by omega)]; omega)
  have e8 : vp_in (nI c) 520 = True := eq_true (vp_in_nI (by omega) (by decide))
  simp only [wq_11, wp_Lw_set, wp_Pm_set, wp_Md_set, wp_Md_thrown]
  obtain ⟨t, ht, rfl⟩ := un_ex y2
  rcases has_cases (C := C) (by omega) y1 with ⟨hk, -⟩ | ⟨k, hk, rfl⟩
  · simp only [hk, not_true_eq_false, not_false_eq_true, true_implies, false_implies, implies_true, and_true, true_and, forall_eq, if_true, if_false, true_or, or_true, eui, eiu, nb0, nb1, z10, z20, z01, z02, z12, z21, lt00, lt04, lt05, ps10, ps14, ps15]
    exact ⟨rfl, hM, hT1, hB, hR, hF, rfl⟩
  · have hp := psum_le (L := T) hk
    have e1 := has_yes hk (show C < 2 ^ 31 by omega)
    have e2 : ly_ln (nI C) (nI k) (fun k => nI (T k)) = nI (T k) := ln_yes hk (by omega) _
    have e3 : ly_st (nI C) (nI k) tS = nI (psum T k) := by rw [st_yes hk (by omega), hS k hk]
    have e4 : vp_in (nI k) 6 = True := eq_true (vp_in_nI (by omega) (by decide))
    have e5 : (nI k).toNatClampNeg = k := nI_clamp (by omega)
    have e6 : (nI (T k)).toInt64 = lN (T k) := nI_l (by omega)
    by_cases rr : y3 < (-1)
    · simp only [e0, e1, e2, e3, e4, e5, e6, e8, ref_0 rr, rr, not_true_eq_false, not_false_eq_true, true_implies, false_implies, implies_true, and_true, true_and, forall_eq, if_true, if_false, true_or, or_true, eui, eiu, nb0, nb1, z10, z20, z01, z02, z12, z21, lt00, lt04, lt05, ps10, ps14, ps15]
      exact ⟨rfl, hM, hT1, hB, hR, hF, rfl⟩
    have d3 := e1s ht
    by_cases qF : t + 1 ≤ T k
    · have a1 := cT (show t + 1 < 2 ^ 63 by omega) (show T k < 2 ^ 63 by omega) qF
      have a2 := gF (show t + 1 < 2 ^ 63 by omega) (show T k < 2 ^ 63 by omega) qF
      have c1 : vp_in (nI (psum T k + t)) 200 = True := eq_true (vp_in_nI (by omega) (by decide))
      have c2 : (nI (psum T k + t)).toNatClampNeg = psum T k + t := nI_clamp (by omega)
      simp only [e0, e1, e2, e3, e4, e5, e6, e8, ref_1 rr, rr, d3, a1, a2, u32_i, nI_add, c1, c2, o10, not_true_eq_false, not_false_eq_true, true_implies, false_implies, implies_true, and_true, true_and, forall_eq, if_true, if_false, true_or, or_true, eui, eiu, nb0, nb1, z10, z20, z01, z02, z12, z21, lt00, lt04, lt05, ps10, ps14, ps15]
      have key := gT_wr (f' := upd fte (psum T k + t) y3) hT hn hk qF (x := nI 1) rfl rfl (lg_l2i_i2l (nI t)) (show (1 : Int64).toInt32 = nI 1 from rfl) 2 0 y3 (fun i hi => upd_ne (by omega)) (fun i hi => by rw [if_pos rfl, show i = 0 by omega]; exact upd_eq _ _ _) (fun q => absurd q (by decide))
      simp only [show ((nI 1).toInt64 = 0) = False from eq_false (by decide), if_false] at key
      exact ⟨rfl, hM, key, hB, hR, hF, rfl⟩
    · have a1 := cF (show t + 1 < 2 ^ 63 by omega) (show T k < 2 ^ 63 by omega) qF
      have a2 := gT' (show t + 1 < 2 ^ 63 by omega) (show T k < 2 ^ 63 by omega) qF
      simp only [e0, e1, e2, e3, e4, e5, e6, e8, ref_1 rr, rr, d3, a1, a2, not_true_eq_false, not_false_eq_true, true_implies, false_implies, implies_true, and_true, true_and, forall_eq, if_true, if_false, true_or, or_true, eui, eiu, nb0, nb1, z10, z20, z01, z02, z12, z21, lt00, lt04, lt05, ps10, ps14, ps15]
      exact ⟨rfl, hM, hT1, hB, hR, hF, rfl⟩
theorem q_13 : ∀ n, n < 512 → ∀ (trp : Int32) (mC : Int32) (mU : Int32) (mS : Nat → Int32) (mL : Nat → Int32) (mD : Nat → Int32) (tC : Int32) (tU : Int32) (tS : Nat → Int32) (tL : Nat → Int32) (tD : Nat → Int32) (bC : Int32) (bU : Int32) (bS : Nat → Int32) (bL : Nat → Int32) (bD : Nat → Int32) (rC : Int32) (rU : Int32) (rS : Nat → Int32) (rL : Nat → Int32) (rD : Nat → Int32) (fml : Nat → Int32) (fmb : Nat → Int32) (ftl : Nat → Int32) (ftt : Nat → Int32) (fte : Nat → Int32) (fsb : Nat → Int32) (fsr : Nat → Int32) (vth : Int32) (vtp : Int32) (vme : Int32) (vta : Int32) (vpl : Int32) (vel : Int32) (vsg : Int32) (vus : Int32) (vrw : Int32) (vur : Int32) (vwr : Int32) (vch : Int32) (gpg : Nat → Int32) (gli : Nat → Int32) (gty : Nat → Int32) (gen : Nat → Int32) (gtl : Nat → Int32) (gst : Nat → Int32) (gmn : Nat → Int32) (gdr : Nat → Int32) (ghe : Nat → Int32) (grs : Nat → Int32) (grm : Nat → Int32) (grd : Nat → Int32) (ghr : Nat → Int32) (gki : Nat → Int32) (gin : Nat → Int32) (gpl : Nat → Int32) (gle : Nat → Int32) (gso : Nat → Int32) (gva : Nat → Int64) (gck : Nat → Int32) (gci : Nat → Int32) (gcp : Nat → Int32) (gcl : Nat → Int32) (gcs : Nat → Int32) (gcv : Nat → Int32) (fo : Nat → Int64) (y1 y2 y3 y4 : Int32), Inv n trp mC mU mS mL mD tC tU tS tL tD bC bU bS bL bD rC rU rS rL rD fml fmb ftl ftt fte fsb fsr vth vtp vme vta vpl vel vsg vus vrw vur vwr vch gpg gli gty gen gtl gst gmn gdr ghe grs grm grd ghr gki gin gpl gle gso gva gck gci gcp gcl gcs gcv fo → wq_13 (Inv (n + 1)) trp mC mU mS mL mD tC tU tS tL tD bC bU bS bL bD rC rU rS rL rD fml fmb ftl ftt fte fsb fsr vth vtp vme vta vpl vel vsg vus vrw vur vwr vch gpg gli gty gen gtl gst gmn gdr ghe grs grm grd ghr gki gin gpl gle gso gva gck gci gcp gcl gcs gcv fo y1 y2 y3 y4 := by
  intro n hn trp mC mU mS mL mD tC tU tS tL tD bC bU bS bL bD rC rU rS rL rD fml fmb ftl ftt fte fsb fsr vth vtp vme vta vpl vel vsg vus vrw vur vwr vch gpg gli gty gen gtl gst gmn gdr ghe grs grm grd ghr gki gin gpl gle gso gva gck gci gcp gcl gcs gcv fo y1 y2 y3 y4 hI
  obtain ⟨rfl, hM, ⟨C, c, T, hT⟩, hB, hR, hF, rfl⟩ := hI
  have hT1 := gT.mono ⟨C, c, T, hT⟩
  replace hM := hM.mono
  obtain ⟨rfl, rfl, hC, hs, rfl, rfl, rfl, hz, hS, rfl, rfl, rfl, rfl, hc, hw, hrow, hout⟩ := id hT
  have e0 : ((nI C).toInt ≤ 6) = True := eq_true (by rw [nI_toInt (by omega)]; omega)
  have e8 : vp_in (nI c) 520 = True := eq_true (vp_in_nI (by omega) (by decide))
  simp only [wq_13, wp_Lw_fillTable, wp_Pm_fillTable, wp_Md_fillTable, wp_Md_thrown]
  obtain ⟨t, ht, rfl⟩ := un_ex y2
  obtain ⟨m, hm, rfl⟩ := un_ex y4
  rcases has_cases (C := C) (by omega) y1 with ⟨hk, -⟩ | ⟨k, hk, rfl⟩
  · simp only [hk, not_true_eq_false, not_false_eq_true, true_implies, false_implies, implies_true, and_true, true_and, forall_eq, if_true, if_false, true_or, or_true, eui, eiu, nb0, nb1, z10, z20, z01, z02, z12, z21, lt00, lt04, lt05, ps10, ps14, ps15]
    exact ⟨rfl, hM, hT1, hB, hR, hF, rfl⟩
  · have hp := psum_le (L := T) hk
    have e1 := has_yes hk (show C < 2 ^ 31 by omega)
    have e2 : ly_ln (nI C) (nI k) (fun k => nI (T k)) = nI (T k) := ln_yes hk (by omega) _
    have e3 : ly_st (nI C) (nI k) tS = nI (psum T k) := by rw [st_yes hk (by omega), hS k hk]
    have e4 : vp_in (nI k) 6 = True := eq_true (vp_in_nI (by omega) (by decide))
    have e5 : (nI k).toNatClampNeg = k := nI_clamp (by omega)
    have e6 : (nI (T k)).toInt64 = lN (T k) := nI_l (by omega)
    by_cases rr : y3 < (-1)
    · simp only [e0, e1, e2, e3, e4, e5, e6, e8, ref_0 rr, rr, not_true_eq_false, not_false_eq_true, true_implies, false_implies, implies_true, and_true, true_and, forall_eq, if_true, if_false, true_or, or_true, eui, eiu, nb0, nb1, z10, z20, z01, z02, z12, z21, lt00, lt04, lt05, ps10, ps14, ps15]
      exact ⟨rfl, hM, hT1, hB, hR, hF, rfl⟩
    by_cases qT : t + m ≤ T k
    · have b1 := fl2T ht hm (show T k < 2 ^ 31 by omega) qT
      have b2 := fg2F ht hm (show T k < 2 ^ 31 by omega) qT
      have c3 : (nI (psum T k + t) < 0) = False := eq_false (nI_pos (by omega))
      have c4 : (nI (psum T k + t) ≤ nI (psum T k + t + m)) = True := eq_true (nI_le (by omega) (by omega))
      have c5 : (nI (psum T k + t + m) ≤ nI 200) = True := eq_true (nI_le (by omega) (by decide))
      have c6 : (nI (psum T k + t)).toNatClampNeg = psum T k + t := nI_clamp (by omega)
      have c7 : (nI (psum T k + t + m)).toNatClampNeg = psum T k + t + m := nI_clamp (by omega)
      have c9 : (200 < 2147483648) = True := eq_true (by decide)
      simp only [e0, e1, e2, e3, e4, e5, e6, e8, ref_1 rr, rr, b1, b2, u32_i, nI_add, c3, c4, c5, c6, c7, c9, not_true_eq_false, not_false_eq_true, true_implies, false_implies, implies_true, and_true, true_and, forall_eq, if_true, if_false, true_or, or_true, eui, eiu, nb0, nb1, z10, z20, z01, z02, z12, z21, lt00, lt04, lt05, ps10, ps14, ps15]
      refine ⟨rfl, hM, gT_wr hT hn hk qT rfl rfl (lg_l2i_i2l _) (lg_l2i_i2l _) 2 0 y3 (fun i hi => if_neg hi) (fun i hi => ?_) (fun q => absurd q (by decide)), hB, hR, hF, rfl⟩
      rw [if_pos rfl, fill_in hi]
    · have b1 := fl2F ht hm (show T k < 2 ^ 31 by omega) qT
      have b2 := fg2T ht hm (show T k < 2 ^ 31 by omega) qT
      simp only [e0, e1, e2, e3, e4, e5, e6, e8, ref_1 rr, rr, b1, b2, not_true_eq_false, not_false_eq_true, true_implies, false_implies, implies_true, and_true, true_and, forall_eq, if_true, if_false, true_or, or_true, eui, eiu, nb0, nb1, z10, z20, z01, z02, z12, z21, lt00, lt04, lt05, ps10, ps14, ps15]
      exact ⟨rfl, hM, hT1, hB, hR, hF, rfl⟩
