/-! ===== calls that write to a memory ===== -/
theorem un_ex (x : Int32) : ∃ t, t < 2 ^ 32 ∧ x = nI t := ⟨un x, un_lt x, (nI_un x).symm⟩
theorem fl2 {t m b : Nat} (ht : t < 2 ^ 32) (hm : m < 2 ^ 32) (hb : b < 2 ^ 31) : lg_cmp (u32 (nI t) + u32 (nI m)) (lN b) ≤ 0 ↔ t + m ≤ b := by
  rw [u32_un, u32_un, un_nI ht, un_nI hm, lN_add, cmp_le (by omega) (by omega)]
theorem fg2 {t m b : Nat} (ht : t < 2 ^ 32) (hm : m < 2 ^ 32) (hb : b < 2 ^ 31) : 0 < lg_cmp (u32 (nI t) + u32 (nI m)) (lN b) ↔ b < t + m := by
  rw [u32_un, u32_un, un_nI ht, un_nI hm, lN_add, cmp_gt (by omega) (by omega)]
theorem fl2T {t m b : Nat} (ht : t < 2 ^ 32) (hm : m < 2 ^ 32) (hb : b < 2 ^ 31) (h : t + m ≤ b) : (lg_cmp (u32 (nI t) + u32 (nI m)) (lN b) ≤ 0) = True := eq_true ((fl2 ht hm hb).mpr h)
theorem fl2F {t m b : Nat} (ht : t < 2 ^ 32) (hm : m < 2 ^ 32) (hb : b < 2 ^ 31) (h : ¬ t + m ≤ b) : (lg_cmp (u32 (nI t) + u32 (nI m)) (lN b) ≤ 0) = False := eq_false fun q => h ((fl2 ht hm hb).mp q)
theorem fg2F {t m b : Nat} (ht : t < 2 ^ 32) (hm : m < 2 ^ 32) (hb : b < 2 ^ 31) (h : t + m ≤ b) : (0 < lg_cmp (u32 (nI t) + u32 (nI m)) (lN b)) = False := eq_false fun q => by have := (fg2 ht hm hb).mp q; omega
theorem fg2T {t m b : Nat} (ht : t < 2 ^ 32) (hm : m < 2 ^ 32) (hb : b < 2 ^ 31) (h : ¬ t + m ≤ b) : (0 < lg_cmp (u32 (nI t) + u32 (nI m)) (lN b)) = True := eq_true ((fg2 ht hm hb).mpr (by omega))
theorem e3s {a o w : Nat} (ha : a < 2 ^ 32) (ho : o < 2 ^ 32) (hw : w ≤ 8) : u32 (nI a) + u32 (nI o) + (nI w).toInt64 = lN (a + o + w) := by
  rw [u32_un, u32_un, un_nI ha, un_nI ho, nI_l (by omega), lN_add, lN_add]
theorem e2s {a o : Nat} (ha : a < 2 ^ 32) (ho : o < 2 ^ 32) : (u32 (nI a) + u32 (nI o)).toInt32 = nI (a + o) := by
  rw [u32_un, u32_un, un_nI ha, un_nI ho, lN_add, lN_i]
theorem cT {a b : Nat} (ha : a < 2 ^ 63) (hb : b < 2 ^ 63) (h : a ≤ b) : (lg_cmp (lN a) (lN b) ≤ 0) = True := eq_true ((cmp_le ha hb).mpr h)
theorem cF {a b : Nat} (ha : a < 2 ^ 63) (hb : b < 2 ^ 63) (h : ¬ a ≤ b) : (lg_cmp (lN a) (lN b) ≤ 0) = False := eq_false fun q => h ((cmp_le ha hb).mp q)
theorem gF {a b : Nat} (ha : a < 2 ^ 63) (hb : b < 2 ^ 63) (h : a ≤ b) : (0 < lg_cmp (lN a) (lN b)) = False := eq_false fun q => by have := (cmp_gt ha hb).mp q; omega
theorem gT' {a b : Nat} (ha : a < 2 ^ 63) (hb : b < 2 ^ 63) (h : ¬ a ≤ b) : (0 < lg_cmp (lN a) (lN b)) = True := eq_true ((cmp_gt ha hb).mpr (by omega))
theorem w_st (j : Nat) : ∃ w, w ≤ 8 ∧ wStore j = nI w := by
  match j with
  | 0 => exact ⟨4, by decide, rfl⟩
  | 1 => exact ⟨8, by decide, rfl⟩
  | 2 => exact ⟨4, by decide, rfl⟩
  | 3 => exact ⟨8, by decide, rfl⟩
  | 4 => exact ⟨1, by decide, rfl⟩
  | 5 => exact ⟨2, by decide, rfl⟩
  | 6 => exact ⟨1, by decide, rfl⟩
  | 7 => exact ⟨2, by decide, rfl⟩
  | 8 => exact ⟨4, by decide, rfl⟩
  | j + 9 => exact ⟨0, by decide, rfl⟩
theorem w_stof (op : Int32) : ∃ w, w ≤ 8 ∧ w_of op 54 9 wStore = nI w := by
  unfold w_of
  split
  · exact ⟨0, by decide, rfl⟩
  · split
    · exact w_st _
    · exact ⟨0, by decide, rfl⟩
theorem va_cpy_in {f g : Nat → Int32} {a b n i : Nat} (h : i < n) : va_cpy f g a b n (b + i) = f (a + i) := by
  unfold va_cpy
  rw [if_pos ⟨by omega, by omega⟩, Nat.add_sub_cancel_left]
theorem put_in {f : Nat → Int32} {a n i : Nat} {v : Int64} (h : i < n) : put_b f a n v (a + i) = byt v i := by
  unfold put_b
  rw [if_pos ⟨by omega, by omega⟩, Nat.add_sub_cancel_left]
theorem fill_in {f : Nat → Int32} {a n i : Nat} {v : Int32} (h : i < n) : ar_fill f a (a + n) v (a + i) = v := by
  unfold ar_fill
  rw [if_pos ⟨by omega, by omega⟩]
theorem q_5 : ∀ n, n < 512 → ∀ (trp : Int32) (mC : Int32) (mU : Int32) (mS : Nat → Int32) (mL : Nat → Int32) (mD : Nat → Int32) (tC : Int32) (tU : Int32) (tS : Nat → Int32) (tL : Nat → Int32) (tD : Nat → Int32) (bC : Int32) (bU : Int32) (bS : Nat → Int32) (bL : Nat → Int32) (bD : Nat → Int32) (rC : Int32) (rU : Int32) (rS : Nat → Int32) (rL : Nat → Int32) (rD : Nat → Int32) (fml : Nat → Int32) (fmb : Nat → Int32) (ftl : Nat → Int32) (ftt : Nat → Int32) (fte : Nat → Int32) (fsb : Nat → Int32) (fsr : Nat → Int32) (vth : Int32) (vtp : Int32) (vme : Int32) (vta : Int32) (vpl : Int32) (vel : Int32) (vsg : Int32) (vus : Int32) (vrw : Int32) (vur : Int32) (vwr : Int32) (vch : Int32) (gpg : Nat → Int32) (gli : Nat → Int32) (gty : Nat → Int32) (gen : Nat → Int32) (gtl : Nat → Int32) (gst : Nat → Int32) (gmn : Nat → Int32) (gdr : Nat → Int32) (ghe : Nat → Int32) (grs : Nat → Int32) (grm : Nat → Int32) (grd : Nat → Int32) (ghr : Nat → Int32) (gki : Nat → Int32) (gin : Nat → Int32) (gpl : Nat → Int32) (gle : Nat → Int32) (gso : Nat → Int32) (gva : Nat → Int64) (gck : Nat → Int32) (gci : Nat → Int32) (gcp : Nat → Int32) (gcl : Nat → Int32) (gcs : Nat → Int32) (gcv : Nat → Int32) (fo : Nat → Int64) (y1 y2 y3 y4 : Int32), Inv n trp mC mU mS mL mD tC tU tS tL tD bC bU bS bL bD rC rU rS rL rD fml fmb ftl ftt fte fsb fsr vth vtp vme vta vpl vel vsg vus vrw vur vwr vch gpg gli gty gen gtl gst gmn gdr ghe grs grm grd ghr gki gin gpl gle gso gva gck gci gcp gcl gcs gcv fo → wq_5 (Inv (n + 1)) trp mC mU mS mL mD tC tU tS tL tD bC bU bS bL bD rC rU rS rL rD fml fmb ftl ftt fte fsb fsr vth vtp vme vta vpl vel vsg vus vrw vur vwr vch gpg gli gty gen gtl gst gmn gdr ghe grs grm grd ghr gki gin gpl gle gso gva gck gci gcp gcl gcs gcv fo y1 y2 y3 y4 := by
  intro n hn trp mC mU mS mL mD tC tU tS tL tD bC bU bS bL bD rC rU rS rL rD fml fmb ftl ftt fte fsb fsr vth vtp vme vta vpl vel vsg vus vrw vur vwr vch gpg gli gty gen gtl gst gmn gdr ghe grs grm grd ghr gki gin gpl gle gso gva gck gci gcp gcl gcs gcv fo y1 y2 y3 y4 hI
  obtain ⟨rfl, ⟨C, c, P, hM⟩, hT, hB, hR, hF, rfl⟩ := hI
  have hM1 := gM.mono ⟨C, c, P, hM⟩
  replace hT := hT.mono
  obtain ⟨rfl, rfl, hC, hs, rfl, rfl, hg, hz, hS, rfl, rfl, rfl, hc, hw, hfb, hrow, h0, hout⟩ := id hM
  have e0 : ((nI C).toInt ≤ 6) = True := eq_true (by rw [nI_toInt (by omega)]; omega)
  have e8 : vp_in (nI c) 520 = True := eq_true (vp_in_nI (by omega) (by decide))
  simp only [wq_5, wp_Lw_copy, wp_Pm_copy, wp_Md_copy, wp_Md_thrown]
  obtain ⟨t, ht, rfl⟩ := un_ex y2
  obtain ⟨f, hf, rfl⟩ := un_ex y3
  obtain ⟨m, hm, rfl⟩ := un_ex y4
  rcases has_cases (C := C) (by omega) y1 with ⟨hk, -⟩ | ⟨k, hk, rfl⟩
  · simp only [hk, not_true_eq_false, not_false_eq_true, true_implies, false_implies, implies_true, and_true, true_and, forall_eq, if_true, if_false, true_or, or_true, eui, eiu, nb0, nb1, z10, z20, z01, z02, z12, z21, lt00, lt04, lt05, ps10, ps14, ps15]
    exact ⟨rfl, hM1, hT, hB, hR, hF, rfl⟩
  · have hp := psum_le (L := P) hk
    have hpb := psum_lb (P := P) hk
    have hpc := psum_by P C
    have e1 := has_yes hk (show C < 2 ^ 31 by omega)
    have e2 : ly_ln (nI C) (nI k) (fun k => nI (256 * P k)) = nI (256 * P k) := ln_yes hk (by omega) _
    have e3 : ly_st (nI C) (nI k) mS = nI (psum (bys P) k) := by rw [st_yes hk (by omega), hS k hk]
    have e4 : vp_in (nI k) 6 = True := eq_true (vp_in_nI (by omega) (by decide))
    have e5 : (nI k).toNatClampNeg = k := nI_clamp (by omega)
    have e6 : (nI (256 * P k)).toInt64 = lN (256 * P k) := nI_l (by omega)
    have e7 : (nI (P k)).toInt64 * 256 = lN (256 * P k) := by_l (by omega)
    by_cases qF : f + m ≤ 256 * P k
    · have a1 := fl2T hf hm (show 256 * P k < 2 ^ 31 by omega) qF
      have a2 := fg2F hf hm (show 256 * P k < 2 ^ 31 by omega) qF
      by_cases qT : t + m ≤ 256 * P k
      · have b1 := fl2T ht hm (show 256 * P k < 2 ^ 31 by omega) qT
        have b2 := fg2F ht hm (show 256 * P k < 2 ^ 31 by omega) qT
        have c1 : (nI (psum (bys P) k + f) < 0) = False := eq_false (nI_pos (by omega))
        have c2 : (nI (psum (bys P) k + t) < 0) = False := eq_false (nI_pos (by omega))
        have c3 : (nI m < 0) = False := eq_false (nI_pos (by omega))
        have c4 : (nI (psum (bys P) k + f)).toNatClampNeg = psum (bys P) k + f := nI_clamp (by omega)
        have c5 : (nI (psum (bys P) k + t)).toNatClampNeg = psum (bys P) k + t := nI_clamp (by omega)
        have c6 : (nI m).toNatClampNeg = m := nI_clamp (by omega)
        have c7 : (psum (bys P) k + f + m ≤ 12288) = True := eq_true (by omega)
        have c8 : (psum (bys P) k + t + m ≤ 12288) = True := eq_true (by omega)
        simp only [e0, e1, e2, e3, e4, e5, e6, e7, e8, hg, a1, a2, b1, b2, u32_i, nI_add, c1, c2, c3, c4, c5, c6, c7, c8, show (fits .byte (.int (fmb _)) = true) = True from eq_true (hfb _), not_true_eq_false, not_false_eq_true, true_implies, false_implies, implies_true, and_true, true_and, forall_eq, if_true, if_false, true_or, or_true, eui, eiu, nb0, nb1, z10, z20, z01, z02, z12, z21, lt00, lt04, lt05, ps10, ps14, ps15]
        refine ⟨rfl, gM_wr hM hn hk qT rfl rfl (lg_l2i_i2l _) (lg_l2i_i2l _) 3 (nI f) 0 (fun i hi => if_neg hi) (hfb.cpy hfb _ _ _) (fun i hi => ?_) (fun q => absurd q (by decide)), hT, hB, hR, hF, rfl⟩
        rw [if_neg (by decide), if_neg (by decide), if_neg (by decide), nI_add, va_cpy_in hi, Nat.add_assoc]
        exact hrow k hk (f + i) (show f + i < 256 * P k by omega)
      · have b1 := fl2F ht hm (show 256 * P k < 2 ^ 31 by omega) qT
        have b2 := fg2T ht hm (show 256 * P k < 2 ^ 31 by omega) qT
        simp only [e0, e1, e2, e3, e4, e5, e6, e7, e8, hg, a1, a2, b1, b2, not_true_eq_false, not_false_eq_true, true_implies, false_implies, implies_true, and_true, true_and, forall_eq, if_true, if_false, true_or, or_true, eui, eiu, nb0, nb1, z10, z20, z01, z02, z12, z21, lt00, lt04, lt05, ps10, ps14, ps15]
        exact ⟨rfl, hM1, hT, hB, hR, hF, rfl⟩
    · have a1 := fl2F hf hm (show 256 * P k < 2 ^ 31 by omega) qF
      have a2 := fg2T hf hm (show 256 * P k < 2 ^ 31 by omega) qF
      simp only [e0, e1, e2, e3, e4, e5, e6, e7, e8, hg, a1, a2, not_true_eq_false, not_false_eq_true, true_implies, false_implies, implies_true, and_true, true_and, forall_eq, if_true, if_false, true_or, or_true, eui, eiu, nb0, nb1, z10, z20, z01, z02, z12, z21, lt00, lt04, lt05, ps10, ps14, ps15]
      exact ⟨rfl, hM1, hT, hB, hR, hF, rfl⟩
theorem q_3 : ∀ n, n < 512 → ∀ (trp : Int32) (mC : Int32) (mU : Int32) (mS : Nat → Int32) (mL : Nat → Int32) (mD : Nat → Int32) (tC : Int32) (tU : Int32) (tS : Nat → Int32) (tL : Nat → Int32) (tD : Nat → Int32) (bC : Int32) (bU : Int32) (bS : Nat → Int32) (bL : Nat → Int32) (bD : Nat → Int32) (rC : Int32) (rU : Int32) (rS : Nat → Int32) (rL : Nat → Int32) (rD : Nat → Int32) (fml : Nat → Int32) (fmb : Nat → Int32) (ftl : Nat → Int32) (ftt : Nat → Int32) (fte : Nat → Int32) (fsb : Nat → Int32) (fsr : Nat → Int32) (vth : Int32) (vtp : Int32) (vme : Int32) (vta : Int32) (vpl : Int32) (vel : Int32) (vsg : Int32) (vus : Int32) (vrw : Int32) (vur : Int32) (vwr : Int32) (vch : Int32) (gpg : Nat → Int32) (gli : Nat → Int32) (gty : Nat → Int32) (gen : Nat → Int32) (gtl : Nat → Int32) (gst : Nat → Int32) (gmn : Nat → Int32) (gdr : Nat → Int32) (ghe : Nat → Int32) (grs : Nat → Int32) (grm : Nat → Int32) (grd : Nat → Int32) (ghr : Nat → Int32) (gki : Nat → Int32) (gin : Nat → Int32) (gpl : Nat → Int32) (gle : Nat → Int32) (gso : Nat → Int32) (gva : Nat → Int64) (gck : Nat → Int32) (gci : Nat → Int32) (gcp : Nat → Int32) (gcl : Nat → Int32) (gcs : Nat → Int32) (gcv : Nat → Int32) (fo : Nat → Int64) (y1 y2 y3 y4 y5 y6 : Int32), Inv n trp mC mU mS mL mD tC tU tS tL tD bC bU bS bL bD rC rU rS rL rD fml fmb ftl ftt fte fsb fsr vth vtp vme vta vpl vel vsg vus vrw vur vwr vch gpg gli gty gen gtl gst gmn gdr ghe grs grm grd ghr gki gin gpl gle gso gva gck gci gcp gcl gcs gcv fo → wq_3 (Inv (n + 1)) trp mC mU mS mL mD tC tU tS tL tD bC bU bS bL bD rC rU rS rL rD fml fmb ftl ftt fte fsb fsr vth vtp vme vta vpl vel vsg vus vrw vur vwr vch gpg gli gty gen gtl gst gmn gdr ghe grs grm grd ghr gki gin gpl gle gso gva gck gci gcp gcl gcs gcv fo y1 y2 y3 y4 y5 y6 := by
  intro n hn trp mC mU mS mL mD tC tU tS tL tD bC bU bS bL bD rC rU rS rL rD fml fmb ftl ftt fte fsb fsr vth vtp vme vta vpl vel vsg vus vrw vur vwr vch gpg gli gty gen gtl gst gmn gdr ghe grs grm grd ghr gki gin gpl gle gso gva gck gci gcp gcl gcs gcv fo y1 y2 y3 y4 y5 y6 hI
  obtain ⟨rfl, ⟨C, c, P, hM⟩, hT, hB, hR, hF, rfl⟩ := hI
  have hM1 := gM.mono ⟨C, c, P, hM⟩
  replace hT := hT.mono
  obtain ⟨rfl, rfl, hC, hs, rfl, rfl, hg, hz, hS, rfl, rfl, rfl, hc, hw, hfb, hrow, h0, hout⟩ := id hM
  have e0 : ((nI C).toInt ≤ 6) = True := eq_true (by rw [nI_toInt (by omega)]; omega)
  have e8 : vp_in (nI c) 520 = True := eq_true (vp_in_nI (by omega) (by decide))
  simp only [wq_3, wp_Lw_store, wp_Pm_store, wp_Md_store, wp_Md_thrown]
  generalize ((y5.toInt64 <<< ((32 : Int32).toInt64 &&& 63)) ||| (y6.toInt64 &&& 4294967295)) = V
  obtain ⟨w, hw8, ew⟩ := w_stof y2
  obtain ⟨a, ha, rfl⟩ := un_ex y3
  obtain ⟨o, ho, rfl⟩ := un_ex y4
  have z40 : (0 ≤ (54 : Int32).toInt) = True := eq_true (by decide)
  rcases has_cases (C := C) (by omega) y1 with ⟨hk, -⟩ | ⟨k, hk, rfl⟩
  · simp only [ew, z40, hk, not_true_eq_false, not_false_eq_true, true_implies, false_implies, implies_true, and_true, true_and, forall_eq, if_true, if_false, true_or, or_true, eui, eiu, nb0, nb1, z10, z20, z01, z02, z12, z21, lt00, lt04, lt05, ps10, ps14, ps15]
    exact ⟨rfl, hM1, hT, hB, hR, hF, rfl⟩
  · have hp := psum_le (L := P) hk
    have hpb := psum_lb (P := P) hk
    have hpc := psum_by P C
    have e1 := has_yes hk (show C < 2 ^ 31 by omega)
    have e2 : ly_ln (nI C) (nI k) (fun k => nI (256 * P k)) = nI (256 * P k) := ln_yes hk (by omega) _
    have e3 : ly_st (nI C) (nI k) mS = nI (psum (bys P) k) := by rw [st_yes hk (by omega), hS k hk]
    have e4 : vp_in (nI k) 6 = True := eq_true (vp_in_nI (by omega) (by decide))
    have e5 : (nI k).toNatClampNeg = k := nI_clamp (by omega)
    have e6 : (nI (256 * P k)).toInt64 = lN (256 * P k) := nI_l (by omega)
    have e7 : (nI (P k)).toInt64 * 256 = lN (256 * P k) := by_l (by omega)
    by_cases w0 : w = 0
    · subst w0
      simp only [ew, z40, e0, e1, e2, e3, e4, e5, e6, e7, e8, hg, show nI 0 = 0 from rfl, show ((0 : Int32) ≤ 0) = True from eq_true (by decide), not_true_eq_false, not_false_eq_true, true_implies, false_implies, implies_true, and_true, true_and, forall_eq, if_true, if_false, true_or, or_true, eui, eiu, nb0, nb1, z10, z20, z01, z02, z12, z21, lt00, lt04, lt05, ps10, ps14, ps15]
      exact ⟨rfl, hM1, hT, hB, hR, hF, rfl⟩
    · have d1 : (nI w = 0) = False := eq_false (nI_ne0 (by omega) (by omega))
      have d2 : (nI w ≤ 0) = False := eq_false (nI_nle (by omega) (by omega))
      have d3 := e3s ha ho hw8
      have d4 := e2s ha ho
      by_cases qF : a + o + w ≤ 256 * P k
      · have a1 := cT (show a + o + w < 2 ^ 63 by omega) (show 256 * P k < 2 ^ 63 by omega) qF
        have a2 := gF (show a + o + w < 2 ^ 63 by omega) (show 256 * P k < 2 ^ 63 by omega) qF
        have c1 : (nI (psum (bys P) k + (a + o)) < 0) = False := eq_false (nI_pos (by omega))
        have c3 : (nI w < 0) = False := eq_false (nI_pos (by omega))
        have c4 : (nI (psum (bys P) k + (a + o))).toNatClampNeg = psum (bys P) k + (a + o) := nI_clamp (by omega)
        have c6 : (nI w).toNatClampNeg = w := nI_clamp (by omega)
        have c7 : (psum (bys P) k + (a + o) + w ≤ 12288) = True := eq_true (by omega)
        have c9 : (12288 < 2147483648) = True := eq_true (by decide)
        simp only [ew, z40, e0, e1, e2, e3, e4, e5, e6, e7, e8, hg, d1, d2, d3, d4, a1, a2, nI_add, c1, c3, c4, c6, c7, c9, not_true_eq_false, not_false_eq_true, true_implies, false_implies, implies_true, and_true, true_and, forall_eq, if_true, if_false, true_or, or_true, eui, eiu, nb0, nb1, z10, z20, z01, z02, z12, z21, lt00, lt04, lt05, ps10, ps14, ps15]
        refine ⟨rfl, gM_wr (t := a + o) hM hn hk qF rfl rfl rfl (lg_l2i_i2l _) 1 0 V (fun i hi => if_neg hi) (hfb.put _ _ _) (fun i hi => ?_) (fun q => absurd q (by decide)), hT, hB, hR, hF, rfl⟩
        rw [if_pos rfl, put_in hi]
        exact st_val V (by omega)
      · have a1 := cF (show a + o + w < 2 ^ 63 by omega) (show 256 * P k < 2 ^ 63 by omega) qF
        have a2 := gT' (show a + o + w < 2 ^ 63 by omega) (show 256 * P k < 2 ^ 63 by omega) qF
        simp only [ew, z40, e0, e1, e2, e3, e4, e5, e6, e7, e8, hg, d1, d2, d3, d4, a1, a2, not_true_eq_false, not_false_eq_true, true_implies, false_implies, implies_true, and_true, true_and, forall_eq, if_true, if_false, true_or, or_true, eui, eiu, nb0, nb1, z10, z20, z01, z02, z12, z21, lt00, lt04, lt05, ps10, ps14, ps15]
        exact ⟨rfl, hM1, hT, hB, hR, hF, rfl⟩
