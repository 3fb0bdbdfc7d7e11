theorem q_2 : ∀ n, n < 512 → ∀ (trp : Int32) (mC : Int32) (mU : Int32) (mS : Nat → Int32) (mL : Nat → Int32) (mD : Nat → Int32) (tC : Int32) (tU : Int32) (tS : Nat → Int32) (tL : Nat → Int32) (tD : Nat → Int32) (bC : Int32) (bU : Int32) (bS : Nat → Int32) (bL : Nat → Int32) (bD : Nat → Int32) (rC : Int32) (rU : Int32) (rS : Nat → Int32) (rL : Nat → Int32) (rD : Nat → Int32) (fml : Nat → Int32) (fmb : Nat → Int32) (ftl : Nat → Int32) (ftt : Nat → Int32) (fte : Nat → Int32) (fsb : Nat → Int32) (fsr : Nat → Int32) (vth : Int32) (vtp : Int32) (vme : Int32) (vta : Int32) (vpl : Int32) (vel : Int32) (vsg : Int32) (vus : Int32) (vrw : Int32) (vur : Int32) (vwr : Int32) (vch : Int32) (gpg : Nat → Int32) (gli : Nat → Int32) (gty : Nat → Int32) (gen : Nat → Int32) (gtl : Nat → Int32) (gst : Nat → Int32) (gmn : Nat → Int32) (gdr : Nat → Int32) (ghe : Nat → Int32) (grs : Nat → Int32) (grm : Nat → Int32) (grd : Nat → Int32) (ghr : Nat → Int32) (gki : Nat → Int32) (gin : Nat → Int32) (gpl : Nat → Int32) (gle : Nat → Int32) (gso : Nat → Int32) (gva : Nat → Int64) (gck : Nat → Int32) (gci : Nat → Int32) (gcp : Nat → Int32) (gcl : Nat → Int32) (gcs : Nat → Int32) (gcv : Nat → Int32) (fo : Nat → Int64) (y1 y2 y3 y4 : Int32), Inv n trp mC mU mS mL mD tC tU tS tL tD bC bU bS bL bD rC rU rS rL rD fml fmb ftl ftt fte fsb fsr vth vtp vme vta vpl vel vsg vus vrw vur vwr vch gpg gli gty gen gtl gst gmn gdr ghe grs grm grd ghr gki gin gpl gle gso gva gck gci gcp gcl gcs gcv fo → wq_2 (Inv (n + 1)) trp mC mU mS mL mD tC tU tS tL tD bC bU bS bL bD rC rU rS rL rD fml fmb ftl ftt fte fsb fsr vth vtp vme vta vpl vel vsg vus vrw vur vwr vch gpg gli gty gen gtl gst gmn gdr ghe grs grm grd ghr gki gin gpl gle gso gva gck gci gcp gcl gcs gcv fo y1 y2 y3 y4 := by
  intro n hn trp mC mU mS mL mD tC tU tS tL tD bC bU bS bL bD rC rU rS rL rD fml fmb ftl ftt fte fsb fsr vth vtp vme vta vpl vel vsg vus vrw vur vwr vch gpg gli gty gen gtl gst gmn gdr ghe grs grm grd ghr gki gin gpl gle gso gva gck gci gcp gcl gcs gcv fo y1 y2 y3 y4 hI
  obtain ⟨rfl, ⟨C, c, P, hM⟩, hT, hB, hR, hF, rfl⟩ := hI
  have hM1 := gM.mono ⟨C, c, P, hM⟩
  replace hT := hT.mono
  obtain ⟨rfl, rfl, hC, hs, rfl, rfl, hg, hz, hS, rfl, rfl, rfl, hc, hw, hfb, hrow, h0, hout⟩ := id hM
  have e0 : ((nI C).toInt ≤ 6) = True := eq_true (by rw [nI_toInt (by omega)]; omega)
  have e8 : vp_in (nI c) 520 = True := eq_true (vp_in_nI (by omega) (by decide))
  have hU : vus.toNatClampNeg ≤ 600 := by
    obtain ⟨CB, U, S, M, -, -, -, -, rfl, hU, -⟩ := hB
    rw [nI_clamp (by omega)]
    exact hU
  simp only [wq_2, wp_Lw_load, wp_Pm_load, wp_Md_load, wp_Md_thrown]
  obtain ⟨w, hw8, ew⟩ := w_ldof y2
  obtain ⟨a, ha, rfl⟩ := un_ex y3
  obtain ⟨o, ho, rfl⟩ := un_ex y4
  have z40 : (0 ≤ (40 : Int32).toInt) = True := eq_true (by decide)
  rcases has_cases (C := C) (by omega) y1 with ⟨hk, -⟩ | ⟨k, hk, rfl⟩
  · simp only [ew, z40, hk, not_true_eq_false, not_false_eq_true, true_implies, false_implies, implies_true, and_true, true_and, forall_eq, if_true, if_false, true_or, or_true, eui, eiu, nb0, nb1, z10, z20, z01, z02, z12, z21, lt00, lt04, lt05, ps10, ps14, ps15]
    exact ⟨rfl, hM1, hT, hB, hR, hF, rfl⟩
  · have hp := psum_le (L := P) hk
    have hpb := psum_lb (P := P) hk
    have hpc := psum_by P C
    have e1 := has_yes hk (show C < 2 ^ 31 by omega)
    have e2 : ly_ln (nI C) (nI k) (fun k => nI (256 * P k)) = nI (256 * P k) := ln_yes hk (by omega) _
    have e3 : ly_st (nI C) (nI k) mS = nI (psum (bys P) k) := by rw [st_yes hk (by omega), hS k hk]
    have e4 : vp_in (nI k) 6 = True := eq_true (vp_in_nI (by omega) (by decide))
    have e5 : (nI k).toNatClampNeg = k := nI_clamp (by omega)
    have e6 : (nI (256 * P k)).toInt64 = lN (256 * P k) := nI_l (by omega)
    have e7 : (nI (P k)).toInt64 * 256 = lN (256 * P k) := by_l (by omega)
    by_cases w0 : w = 0
    · subst w0
      simp only [ew, z40, e0, e1, e2, e3, e4, e5, e6, e7, e8, hg, show nI 0 = 0 from rfl, show ((0 : Int32) ≤ 0) = True from eq_true (by decide), not_true_eq_false, not_false_eq_true, true_implies, false_implies, implies_true, and_true, true_and, forall_eq, if_true, if_false, true_or, or_true, eui, eiu, nb0, nb1, z10, z20, z01, z02, z12, z21, lt00, lt04, lt05, ps10, ps14, ps15]
      exact ⟨rfl, hM1, hT, hB, hR, hF, rfl⟩
    · have d1 : (nI w = 0) = False := eq_false (nI_ne0 (by omega) (by omega))
      have d2 : (nI w ≤ 0) = False := eq_false (nI_nle (by omega) (by omega))
      have d3 := e3s ha ho hw8
      have d4 := e2s ha ho
      by_cases qF : a + o + w ≤ 256 * P k
      · have a1 := cT (show a + o + w < 2 ^ 63 by omega) (show 256 * P k < 2 ^ 63 by omega) qF
        have a2 := gF (show a + o + w < 2 ^ 63 by omega) (show 256 * P k < 2 ^ 63 by omega) qF
        have vin : vp_in 0 1 = True := eq_true (vp_in_nI (n := 0) (N := 1) (by decide) (by decide))
        have ez : (0 : Int32).toNatClampNeg = 0 := rfl
        simp only [ew, z40, e0, e1, e2, e3, e4, e5, e6, e7, e8, hg, d1, d2, d3, d4, a1, a2, nI_add, vin, ez, not_true_eq_false, not_false_eq_true, true_implies, false_implies, implies_true, and_true, true_and, forall_eq, if_true, if_false, true_or, or_true, eui, eiu, nb0, nb1, z10, z20, z01, z02, z12, z21, lt00, lt04, lt05, ps10, ps14, ps15]
        have hy : ∀ i, (fun i => (fmb (psum (bys P) k + (a + o) + i)).toBitVec.toNat % 256) i < 256 := fun i => Nat.mod_lt _ (by decide)
        refine ⟨w + 1, ld_cls (A := psum (bys P) k + (a + o)) (w := w) (by omega) hw8 (fun i => (fmb (psum (bys P) k + (a + o) + i)).toBitVec.toNat % 256) hy (fun i hi => ?_) ?_ w 0 (by omega)⟩
        · rw [← bt_mask, yb_l]
        · refine ⟨w + 1, ?_⟩
          refine ld_md0 hw8 (fun i => (fmb (psum (bys P) k + (a + o) + i)).toBitVec.toNat % 256) hy (by omega) (fun w1 h1 h2 b1 h3 h4 => vin_mono (hw w1 h1 h2 b1 h3 h4) hU) (fun i hi => ?_) (ld_end hw8 ew w0 ?_)
          · have hr := hrow k hk (a + o + i) (show a + o + i < 256 * P k by omega)
            have hr : byA gki gin gpl gle gso gva ghe (nI k) c (nI (a + o + i)) = fmb (psum (bys P) k + (a + o + i)) &&& 255 := hr
            rw [d4, nI_add, hr, yb_l, ← Nat.add_assoc]
          · have u : ∀ x : Int64, (lg_cmp (vp_updL fo 0 x 0) x = 0) = True := fun x => eq_true ((lg_cmp_eq _ _).mpr (if_pos rfl))
            simp only [u, not_true_eq_false, not_false_eq_true, true_implies, false_implies, implies_true, and_true, true_and, forall_eq, if_true, if_false, true_or, or_true, eui, eiu, nb0, nb1, z10, z20, z01, z02, z12, z21, lt00, lt04, lt05, ps10, ps14, ps15]
            exact ⟨rfl, hM1, hT, hB, hR, hF, rfl⟩
      · have a1 := cF (show a + o + w < 2 ^ 63 by omega) (show 256 * P k < 2 ^ 63 by omega) qF
        have a2 := gT' (show a + o + w < 2 ^ 63 by omega) (show 256 * P k < 2 ^ 63 by omega) qF
        simp only [ew, z40, e0, e1, e2, e3, e4, e5, e6, e7, e8, hg, d1, d2, d3, d4, a1, a2, not_true_eq_false, not_false_eq_true, true_implies, false_implies, implies_true, and_true, true_and, forall_eq, if_true, if_false, true_or, or_true, eui, eiu, nb0, nb1, z10, z20, z01, z02, z12, z21, lt00, lt04, lt05, ps10, ps14, ps15]
        exact ⟨rfl, hM1, hT, hB, hR, hF, rfl⟩
