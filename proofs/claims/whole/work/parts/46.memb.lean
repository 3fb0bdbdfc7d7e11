/-! ===== init, memory, grow ===== -/
theorem bys_upd (P : Nat → Nat) (k p : Nat) : bys (updN P k p) = updN (bys P) k (256 * p) := by
  funext j
  by_cases h : j = k
  · subst h
    simp only [bys, updN_eq]
  · simp only [bys, updN_ne h]
theorem left_m {P : Nat → Nat} {C : Nat} (hs : psum P C ≤ 48) : ((12288 : Int32) - nI (psum (bys P) C)) / 256 = nI (48 - psum P C) := by
  rw [psum_by, show (12288 : Int32) = nI 12288 from rfl, pk_sub (by omega), show (256 : Int32) = nI 256 from rfl, pk_div (by omega) (by decide) (by decide)]
  congr 1
  omega
theorem gM_app {mC : Int32} {mU : Int32} {mS : Nat → Int32} {mL : Nat → Int32} {fml : Nat → Int32} {fmb : Nat → Int32} {vme : Int32} {vpl : Int32} {vus : Int32} {vwr : Int32} {gpg : Nat → Int32} {gli : Nat → Int32} {gki : Nat → Int32} {gin : Nat → Int32} {gpl : Nat → Int32} {gle : Nat → Int32} {gso : Nat → Int32} {gva : Nat → Int64} {ghe : Nat → Int32} {n C c p : Nat} {P : Nat → Nat} (h : gMx n C c P mC mU mS mL fml fmb vme vpl vus vwr gpg gli gki gin gpl gle gso gva ghe) (hC : C < 6) (hp : p ≤ 48 - psum P C) (lim : Int32) :
    gM (n + 1) (mC + 1) (mU + nI p * 256) (upd mS C mU) (upd mL C (nI p * 256)) (upd fml C lim) fmb (vme + 1) (vpl - nI p) vus vwr (upd gpg C (nI p)) (upd gli C lim) gki gin gpl gle gso gva ghe := by
  obtain ⟨rfl, rfl, -, hs, rfl, rfl, hg, hz, hS, rfl, rfl, rfl, hc, hw, hfb, hrow, h0, hout⟩ := h
  have hpp : psum (updN P C p) (C + 1) = psum P C + p := by
    simp only [psum]
    rw [psum_upd (Nat.le_refl _), updN_eq]
  have hpb := psum_by P C
  refine ⟨C + 1, c, updN P C p, nI_1 C, nI_1 C, by omega, by omega, ?_, ?_, fun k => ?_, fun k hk => ?_, fun k hk => ?_, ?_, rfl, rfl, by omega, hw, hfb, ?_, fun i hi => ?_, fun k hk j hj hjk => ?_⟩
  · rw [psum_by, psum_by, hpp, show (256 : Int32) = nI 256 from rfl, pk_mul, nI_add]
    congr 1
    omega
  · rw [hpp, pk_sub (by omega)]
    congr 1
    omega
  · by_cases q : k = C
    · subst q
      rw [upd_eq, updN_eq]
    · rw [upd_ne q, updN_ne q, hg]
  · rw [updN_ne (by omega)]
    exact hz k (by omega)
  · rw [bys_upd, psum_upd (by omega)]
    by_cases q : k = C
    · subst q
      rw [upd_eq]
    · rw [upd_ne q, hS k (by omega)]
  · funext k
    by_cases q : k = C
    · subst q
      rw [upd_eq, updN_eq, show (256 : Int32) = nI 256 from rfl, pk_mul, Nat.mul_comm]
    · rw [upd_ne q, updN_ne q]
  · rw [bys_upd]
    refine row_app hrow (fun _ _ => rfl) (fun _ _ _ _ => rfl) (fun j hj => ?_)
    show byA _ _ _ _ _ _ _ _ _ _ = _ &&& _
    rw [h0 _ (by omega), hout C hC j (by omega) (by rw [hz C (Nat.le_refl _)]; omega)]
    decide
  · rw [psum_by, hpp] at hi
    exact h0 i (by omega)
  · by_cases q : k = C
    · subst q
      exact hout k hk j hj (by rw [hz k (Nat.le_refl _)]; omega)
    · rw [updN_ne q] at hjk
      exact hout k hk j hj hjk
theorem gM_grow {mC : Int32} {mU : Int32} {mS : Nat → Int32} {mL : Nat → Int32} {fml : Nat → Int32} {fmb : Nat → Int32} {vme : Int32} {vpl : Int32} {vus : Int32} {vwr : Int32} {gpg : Nat → Int32} {gli : Nat → Int32} {gki : Nat → Int32} {gin : Nat → Int32} {gpl : Nat → Int32} {gle : Nat → Int32} {gso : Nat → Int32} {gva : Nat → Int64} {ghe : Nat → Int32} {n C c d k0 : Nat} {P : Nat → Nat} (h : gMx n C c P mC mU mS mL fml fmb vme vpl vus vwr gpg gli gki gin gpl gle gso gva ghe) (hk : k0 < C) (hd : d ≤ 48 - psum P C) :
    gM (n + 1) mC (mU + nI (d * 256)) (ly_shift mS k0 C (nI (d * 256))) (upd mL k0 (mL k0 + nI (d * 256))) fml (ar_fill (va_cpy fmb fmb (psum (bys P) k0 + 256 * P k0) (psum (bys P) k0 + 256 * P k0 + d * 256) (psum (bys P) C - (psum (bys P) k0 + 256 * P k0))) (psum (bys P) k0 + 256 * P k0) (psum (bys P) k0 + 256 * P k0 + d * 256) 0) vme (vpl - nI d) vus vwr (upd gpg k0 (gpg k0 + nI d)) gli gki gin gpl gle gso gva ghe := by
  obtain ⟨rfl, rfl, hC, hs, rfl, rfl, hg, hz, hS, rfl, rfl, rfl, hc, hw, hfb, hrow, h0, hout⟩ := h
  have hpp : psum (updN P k0 (P k0 + d)) C = psum P C + d := psum_add hk
  have hpb := psum_by P C
  have hle := psum_lb (P := P) hk
  have hle2 := psum_le (L := P) hk
  have hbu : bys (updN P k0 (P k0 + d)) = updN (bys P) k0 (bys P k0 + d * 256) := by
    rw [bys_upd]
    congr 1
    show _ = 256 * P k0 + _
    omega
  refine ⟨C, c, updN P k0 (P k0 + d), rfl, rfl, hC, by omega, ?_, ?_, fun k => ?_, fun k hk => ?_, fun k hk1 => ?_, ?_, rfl, rfl, by omega, hw, ?_, ?_, fun i hi => ?_, fun k hk6 j hj hjk => ?_⟩
  · rw [hbu, psum_add hk, nI_add]
  · rw [hpp, pk_sub (by omega)]
    congr 1
    omega
  · by_cases q : k = k0
    · subst q
      rw [upd_eq, updN_eq, hg, nI_add]
    · rw [upd_ne q, updN_ne q, hg]
  · rw [updN_ne (by omega)]
    exact hz k hk
  · unfold ly_shift
    rw [hbu]
    by_cases q : k0 < k
    · rw [if_pos ⟨q, hk1⟩, psum_add q, hS k hk1, nI_add]
    · rw [if_neg (fun z => q z.1), psum_upd (by omega), hS k hk1]
  · funext k
    by_cases q : k = k0
    · subst q
      rw [upd_eq, updN_eq, nI_add]
      congr 1
      omega
    · rw [upd_ne q, updN_ne q]
  · exact (hfb.cpy hfb _ _ _).fill _ _ (by decide)
  · rw [hbu]
    refine row_grow hrow hk (fun i hi => ?_) (fun i hi hi2 => ?_) (fun _ _ _ _ => rfl) (fun j hj hj2 => ?_)
    · have hi : i < psum (bys P) k0 + 256 * P k0 := hi
      unfold ar_fill va_cpy
      rw [if_neg (by omega), if_neg (by omega)]
    · have hi : psum (bys P) k0 + 256 * P k0 ≤ i := hi
      unfold ar_fill va_cpy
      rw [if_neg (by omega), if_pos (by omega)]
      congr 1
      omega
    · have hj : 256 * P k0 ≤ j := hj
      have hj2 : j < 256 * P k0 + d * 256 := hj2
      show byA _ _ _ _ _ _ _ _ _ _ = _ &&& _
      unfold ar_fill
      rw [if_pos (by omega), hout k0 (by omega) j (by omega) hj]
      decide
  · rw [hbu, psum_add hk] at hi
    unfold ar_fill va_cpy
    rw [if_neg (by omega), if_neg (by omega)]
    exact h0 i (by omega)
  · by_cases q : k = k0
    · subst q
      rw [updN_eq] at hjk
      exact hout k hk6 j hj (by omega)
    · rw [updN_ne q] at hjk
      exact hout k hk6 j hj hjk
theorem q_6 : ∀ n, n < 512 → ∀ (trp : Int32) (mC : Int32) (mU : Int32) (mS : Nat → Int32) (mL : Nat → Int32) (mD : Nat → Int32) (tC : Int32) (tU : Int32) (tS : Nat → Int32) (tL : Nat → Int32) (tD : Nat → Int32) (bC : Int32) (bU : Int32) (bS : Nat → Int32) (bL : Nat → Int32) (bD : Nat → Int32) (rC : Int32) (rU : Int32) (rS : Nat → Int32) (rL : Nat → Int32) (rD : Nat → Int32) (fml : Nat → Int32) (fmb : Nat → Int32) (ftl : Nat → Int32) (ftt : Nat → Int32) (fte : Nat → Int32) (fsb : Nat → Int32) (fsr : Nat → Int32) (vth : Int32) (vtp : Int32) (vme : Int32) (vta : Int32) (vpl : Int32) (vel : Int32) (vsg : Int32) (vus : Int32) (vrw : Int32) (vur : Int32) (vwr : Int32) (vch : Int32) (gpg : Nat → Int32) (gli : Nat → Int32) (gty : Nat → Int32) (gen : Nat → Int32) (gtl : Nat → Int32) (gst : Nat → Int32) (gmn : Nat → Int32) (gdr : Nat → Int32) (ghe : Nat → Int32) (grs : Nat → Int32) (grm : Nat → Int32) (grd : Nat → Int32) (ghr : Nat → Int32) (gki : Nat → Int32) (gin : Nat → Int32) (gpl : Nat → Int32) (gle : Nat → Int32) (gso : Nat → Int32) (gva : Nat → Int64) (gck : Nat → Int32) (gci : Nat → Int32) (gcp : Nat → Int32) (gcl : Nat → Int32) (gcs : Nat → Int32) (gcv : Nat → Int32) (fo : Nat → Int64) (y1 y2 y3 y4 y5 : Int32), Inv n trp mC mU mS mL mD tC tU tS tL tD bC bU bS bL bD rC rU rS rL rD fml fmb ftl ftt fte fsb fsr vth vtp vme vta vpl vel vsg vus vrw vur vwr vch gpg gli gty gen gtl gst gmn gdr ghe grs grm grd ghr gki gin gpl gle gso gva gck gci gcp gcl gcs gcv fo → wq_6 (Inv (n + 1)) trp mC mU mS mL mD tC tU tS tL tD bC bU bS bL bD rC rU rS rL rD fml fmb ftl ftt fte fsb fsr vth vtp vme vta vpl vel vsg vus vrw vur vwr vch gpg gli gty gen gtl gst gmn gdr ghe grs grm grd ghr gki gin gpl gle gso gva gck gci gcp gcl gcs gcv fo y1 y2 y3 y4 y5 := by
  intro n hn trp mC mU mS mL mD tC tU tS tL tD bC bU bS bL bD rC rU rS rL rD fml fmb ftl ftt fte fsb fsr vth vtp vme vta vpl vel vsg vus vrw vur vwr vch gpg gli gty gen gtl gst gmn gdr ghe grs grm grd ghr gki gin gpl gle gso gva gck gci gcp gcl gcs gcv fo y1 y2 y3 y4 y5 hI
  obtain ⟨rfl, ⟨C, c, P, hM⟩, hT, hB, hR, hF, rfl⟩ := hI
  have hM1 := gM.mono ⟨C, c, P, hM⟩
  replace hT := hT.mono
  obtain ⟨rfl, rfl, hC, hs, rfl, rfl, hg, hz, hS, rfl, rfl, rfl, hc, hw, hfb, hrow, h0, hout⟩ := id hM
  have e0 : ((nI C).toInt ≤ 6) = True := eq_true (by rw [nI_toInt (by omega)]; omega)
  have e8 : vp_in (nI c) 520 = True := eq_true (vp_in_nI (by omega) (by decide))
  obtain ⟨CB, U, S, M, hBx⟩ := hB
  obtain ⟨rfl, rfl, hCB, rfl, rfl, hU, rfl, rfl, hst, hmn, hle, hz2, hbl⟩ := id hBx
  have hB : gS 600 _ _ _ _ _ _ _ _ _ _ := ⟨CB, U, S, M, hBx⟩
  simp only [wq_6, wp_Lw_init, wp_Pm_init, wp_Md_init, wp_Md_thrown]
  obtain ⟨t, ht, rfl⟩ := un_ex y3
  obtain ⟨f, hf, rfl⟩ := un_ex y4
  obtain ⟨m, hm, rfl⟩ := un_ex y5
  rcases has_cases (C := C) (by omega) y1 with ⟨hk, -⟩ | ⟨k, hk, rfl⟩
  · simp only [hk, not_true_eq_false, not_false_eq_true, true_implies, false_implies, implies_true, and_true, true_and, forall_eq, if_true, if_false, true_or, or_true, eui, eiu, nb0, nb1, z10, z20, z01, z02, z12, z21, lt00, lt04, lt05, ps10, ps14, ps15]
    exact ⟨rfl, hM1, hT, hB, hR, hF, rfl⟩
  · have hp := psum_le (L := P) hk
    have hpb := psum_lb (P := P) hk
    have hpc := psum_by P C
    have e1 := has_yes hk (show C < 2 ^ 31 by omega)
    have e2 : ly_ln (nI C) (nI k) (fun k => nI (256 * P k)) = nI (256 * P k) := ln_yes hk (by omega) _
    have e3 : ly_st (nI C) (nI k) mS = nI (psum (bys P) k) := by rw [st_yes hk (by omega), hS k hk]
    have e4 : vp_in (nI k) 6 = True := eq_true (vp_in_nI (by omega) (by decide))
    have e5 : (nI k).toNatClampNeg = k := nI_clamp (by omega)
    have e6 : (nI (256 * P k)).toInt64 = lN (256 * P k) := nI_l (by omega)
    have e7 : (nI (P k)).toInt64 * 256 = lN (256 * P k) := by_l (by omega)
    rcases has_cases (C := CB) (by omega) y2 with ⟨hs0, hs1⟩ | ⟨s, hsg, rfl⟩
    · rcases hs1 with q | ⟨q, q2⟩
      · simp only [e0, e1, e2, e3, e4, e5, e6, e7, e8, hg, hs0, q, not_true_eq_false, not_false_eq_true, true_implies, false_implies, implies_true, and_true, true_and, forall_eq, if_true, if_false, true_or, or_true, eui, eiu, nb0, nb1, z10, z20, z01, z02, z12, z21, lt00, lt04, lt05, ps10, ps14, ps15]
        exact ⟨rfl, hM1, hT, hB, hR, hF, rfl⟩
      · simp only [e0, e1, e2, e3, e4, e5, e6, e7, e8, hg, hs0, q, q2, not_true_eq_false, not_false_eq_true, true_implies, false_implies, implies_true, and_true, true_and, forall_eq, if_true, if_false, true_or, or_true, eui, eiu, nb0, nb1, z10, z20, z01, z02, z12, z21, lt00, lt04, lt05, ps10, ps14, ps15]
        exact ⟨rfl, hM1, hT, hB, hR, hF, rfl⟩
    · have hSM := hle s hsg
      have f1 := has_yes hsg (show CB < 2 ^ 31 by omega)
      have f2 : (nI s < 0) = False := eq_false (nI_pos (by omega))
      have f3 : (nI CB ≤ nI s) = False := eq_false (nI_ge hsg (by omega))
      have f4 : vp_in (nI s) 24 = True := eq_true (vp_in_nI (by omega) (by decide))
      have f5 : (nI s).toNatClampNeg = s := nI_clamp (by omega)
      have f7 : ly_st (nI CB) (nI s) bS = nI (S s) := by rw [st_yes hsg (by omega), hst s]
      have f8 : ((nI CB).toInt ≤ 24) = True := eq_true (by rw [nI_toInt (by omega)]; omega)
      by_cases hd : bD s = 0
      · have d1 : (bD s = 0) = True := eq_true hd
        have f6 : ly_ln (nI CB) (nI s) bL = nI (M s) := by rw [ln_yes hsg (by omega), hbl s, if_pos hd, hmn s]
        have f9 : (nI (M s)).toInt64 = lN (M s) := nI_l (by omega)
        by_cases qF : f + m ≤ M s
        · have a1 := fl2T (b := M s) hf hm (by omega) qF
          have a2 : (0 < lg_cmp (u32 (nI f) + u32 (nI m)) (lN (M s))) = False := fg2F (b := M s) hf hm (by omega) qF
          by_cases qT : t + m ≤ 256 * P k
          · have b1 := fl2T ht hm (show 256 * P k < 2 ^ 31 by omega) qT
            have b2 := fg2F ht hm (show 256 * P k < 2 ^ 31 by omega) qT
            have c1 : (nI (S s + f) < 0) = False := eq_false (nI_pos (by omega))
            have c2 : (nI (psum (bys P) k + t) < 0) = False := eq_false (nI_pos (by omega))
            have c3 : (nI m < 0) = False := eq_false (nI_pos (by omega))
            have c4 : (nI (S s + f)).toNatClampNeg = S s + f := nI_clamp (by omega)
            have c5 : (nI (psum (bys P) k + t)).toNatClampNeg = psum (bys P) k + t := nI_clamp (by omega)
            have c6 : (nI m).toNatClampNeg = m := nI_clamp (by omega)
            have c7 : (S s + f + m ≤ 600) = True := eq_true (by omega)
            have c8 : (psum (bys P) k + t + m ≤ 12288) = True := eq_true (by omega)
            simp only [e0, e1, e2, e3, e4, e5, e6, e7, e8, hg, d1, f1, f2, f3, f4, f5, f6, f7, f8, f9, hmn, a1, a2, b1, b2, u32_i, hst, nI_add, c1, c2, c3, c4, c5, c6, c7, c8, show (fits .byte (.int (fsb _)) = true) = True from eq_true (hF.1 _), not_true_eq_false, not_false_eq_true, true_implies, false_implies, implies_true, and_true, true_and, forall_eq, if_true, if_false, true_or, or_true, eui, eiu, nb0, nb1, z10, z20, z01, z02, z12, z21, lt00, lt04, lt05, ps10, ps14, ps15]
            refine ⟨rfl, gM_wr hM hn hk qT rfl rfl (lg_l2i_i2l _) (lg_l2i_i2l _) 4 (nI (S s + f)) 0 (fun i hi => if_neg hi) (hF.1.cpy hfb _ _ _) (fun i hi => ?_) (fun _ a h1 h2 => ?_), hT, hB, hR, hF, rfl⟩
            · rw [if_neg (by decide), if_neg (by decide), if_pos rfl, nI_add, va_cpy_in hi, nI_clamp (by omega), hF.2]
            · obtain ⟨j, hj, rfl⟩ := nI_of h1
              rw [nI_leI (by omega) (by omega)] at h2
              rw [nI_add, nI_clamp (by omega)]
              exact vp_in_nI (by omega) (by omega)
          · have b1 := fl2F ht hm (show 256 * P k < 2 ^ 31 by omega) qT
            have b2 := fg2T ht hm (show 256 * P k < 2 ^ 31 by omega) qT
            simp only [e0, e1, e2, e3, e4, e5, e6, e7, e8, hg, d1, f1, f2, f3, f4, f5, f6, f7, f8, f9, hmn, a1, a2, b1, b2, not_true_eq_false, not_false_eq_true, true_implies, false_implies, implies_true, and_true, true_and, forall_eq, if_true, if_false, true_or, or_true, eui, eiu, nb0, nb1, z10, z20, z01, z02, z12, z21, lt00, lt04, lt05, ps10, ps14, ps15]
            exact ⟨rfl, hM1, hT, hB, hR, hF, rfl⟩
        · have a1 := fl2F (b := M s) hf hm (by omega) qF
          have a2 : (0 < lg_cmp (u32 (nI f) + u32 (nI m)) (lN (M s))) = True := fg2T (b := M s) hf hm (by omega) qF
          simp only [e0, e1, e2, e3, e4, e5, e6, e7, e8, hg, d1, f1, f2, f3, f4, f5, f6, f7, f8, f9, hmn, a1, a2, not_true_eq_false, not_false_eq_true, true_implies, false_implies, implies_true, and_true, true_and, forall_eq, if_true, if_false, true_or, or_true, eui, eiu, nb0, nb1, z10, z20, z01, z02, z12, z21, lt00, lt04, lt05, ps10, ps14, ps15]
          exact ⟨rfl, hM1, hT, hB, hR, hF, rfl⟩
      · have d1 : (bD s = 0) = False := eq_false hd
        have f6 : ly_ln (nI CB) (nI s) bL = nI 0 := by rw [ln_yes hsg (by omega), hbl s, if_neg hd]; rfl
        have f9 : (nI 0).toInt64 = lN 0 := rfl
        by_cases qF : f + m ≤ 0
        · have a1 := fl2T (b := 0) hf hm (by omega) qF
          have a2 : (0 < lg_cmp (u32 (nI f) + u32 (nI m)) (0 : Int64)) = False := fg2F (b := 0) hf hm (by omega) qF
          by_cases qT : t + m ≤ 256 * P k
          · have b1 := fl2T ht hm (show 256 * P k < 2 ^ 31 by omega) qT
            have b2 := fg2F ht hm (show 256 * P k < 2 ^ 31 by omega) qT
            have c1 : (nI (S s + f) < 0) = False := eq_false (nI_pos (by omega))
            have c2 : (nI (psum (bys P) k + t) < 0) = False := eq_false (nI_pos (by omega))
            have c3 : (nI m < 0) = False := eq_false (nI_pos (by omega))
            have c4 : (nI (S s + f)).toNatClampNeg = S s + f := nI_clamp (by omega)
            have c5 : (nI (psum (bys P) k + t)).toNatClampNeg = psum (bys P) k + t := nI_clamp (by omega)
            have c6 : (nI m).toNatClampNeg = m := nI_clamp (by omega)
            have c7 : (S s + f + m ≤ 600) = True := eq_true (by omega)
            have c8 : (psum (bys P) k + t + m ≤ 12288) = True := eq_true (by omega)
            simp only [e0, e1, e2, e3, e4, e5, e6, e7, e8, hg, d1, f1, f2, f3, f4, f5, f6, f7, f8, f9, a1, a2, b1, b2, u32_i, hst, nI_add, c1, c2, c3, c4, c5, c6, c7, c8, show (fits .byte (.int (fsb _)) = true) = True from eq_true (hF.1 _), not_true_eq_false, not_false_eq_true, true_implies, false_implies, implies_true, and_true, true_and, forall_eq, if_true, if_false, true_or, or_true, eui, eiu, nb0, nb1, z10, z20, z01, z02, z12, z21, lt00, lt04, lt05, ps10, ps14, ps15]
            refine ⟨rfl, gM_wr hM hn hk qT rfl rfl (lg_l2i_i2l _) (lg_l2i_i2l _) 4 (nI (S s + f)) 0 (fun i hi => if_neg hi) (hF.1.cpy hfb _ _ _) (fun i hi => ?_) (fun _ a h1 h2 => ?_), hT, hB, hR, hF, rfl⟩
            · rw [if_neg (by decide), if_neg (by decide), if_pos rfl, nI_add, va_cpy_in hi, nI_clamp (by omega), hF.2]
            · obtain ⟨j, hj, rfl⟩ := nI_of h1
              rw [nI_leI (by omega) (by omega)] at h2
              rw [nI_add, nI_clamp (by omega)]
              exact vp_in_nI (by omega) (by omega)
          · have b1 := fl2F ht hm (show 256 * P k < 2 ^ 31 by omega) qT
            have b2 := fg2T ht hm (show 256 * P k < 2 ^ 31 by omega) qT
            simp only [e0, e1, e2, e3, e4, e5, e6, e7, e8, hg, d1, f1, f2, f3, f4, f5, f6, f7, f8, f9, a1, a2, b1, b2, not_true_eq_false, not_false_eq_true, true_implies, false_implies, implies_true, and_true, true_and, forall_eq, if_true, if_false, true_or, or_true, eui, eiu, nb0, nb1, z10, z20, z01, z02, z12, z21, lt00, lt04, lt05, ps10, ps14, ps15]
            exact ⟨rfl, hM1, hT, hB, hR, hF, rfl⟩
        · have a1 := fl2F (b := 0) hf hm (by omega) qF
          have a2 : (0 < lg_cmp (u32 (nI f) + u32 (nI m)) (0 : Int64)) = True := fg2T (b := 0) hf hm (by omega) qF
          simp only [e0, e1, e2, e3, e4, e5, e6, e7, e8, hg, d1, f1, f2, f3, f4, f5, f6, f7, f8, f9, a1, a2, not_true_eq_false, not_false_eq_true, true_implies, false_implies, implies_true, and_true, true_and, forall_eq, if_true, if_false, true_or, or_true, eui, eiu, nb0, nb1, z10, z20, z01, z02, z12, z21, lt00, lt04, lt05, ps10, ps14, ps15]
          exact ⟨rfl, hM1, hT, hB, hR, hF, rfl⟩
theorem q_0 : ∀ n, n < 512 → ∀ (trp : Int32) (mC : Int32) (mU : Int32) (mS : Nat → Int32) (mL : Nat → Int32) (mD : Nat → Int32) (tC : Int32) (tU : Int32) (tS : Nat → Int32) (tL : Nat → Int32) (tD : Nat → Int32) (bC : Int32) (bU : Int32) (bS : Nat → Int32) (bL : Nat → Int32) (bD : Nat → Int32) (rC : Int32) (rU : Int32) (rS : Nat → Int32) (rL : Nat → Int32) (rD : Nat → Int32) (fml : Nat → Int32) (fmb : Nat → Int32) (ftl : Nat → Int32) (ftt : Nat → Int32) (fte : Nat → Int32) (fsb : Nat → Int32) (fsr : Nat → Int32) (vth : Int32) (vtp : Int32) (vme : Int32) (vta : Int32) (vpl : Int32) (vel : Int32) (vsg : Int32) (vus : Int32) (vrw : Int32) (vur : Int32) (vwr : Int32) (vch : Int32) (gpg : Nat → Int32) (gli : Nat → Int32) (gty : Nat → Int32) (gen : Nat → Int32) (gtl : Nat → Int32) (gst : Nat → Int32) (gmn : Nat → Int32) (gdr : Nat → Int32) (ghe : Nat → Int32) (grs : Nat → Int32) (grm : Nat → Int32) (grd : Nat → Int32) (ghr : Nat → Int32) (gki : Nat → Int32) (gin : Nat → Int32) (gpl : Nat → Int32) (gle : Nat → Int32) (gso : Nat → Int32) (gva : Nat → Int64) (gck : Nat → Int32) (gci : Nat → Int32) (gcp : Nat → Int32) (gcl : Nat → Int32) (gcs : Nat → Int32) (gcv : Nat → Int32) (fo : Nat → Int64) (y1 y2 : Int32), Inv n trp mC mU mS mL mD tC tU tS tL tD bC bU bS bL bD rC rU rS rL rD fml fmb ftl ftt fte fsb fsr vth vtp vme vta vpl vel vsg vus vrw vur vwr vch gpg gli gty gen gtl gst gmn gdr ghe grs grm grd ghr gki gin gpl gle gso gva gck gci gcp gcl gcs gcv fo → wq_0 (Inv (n + 1)) trp mC mU mS mL mD tC tU tS tL tD bC bU bS bL bD rC rU rS rL rD fml fmb ftl ftt fte fsb fsr vth vtp vme vta vpl vel vsg vus vrw vur vwr vch gpg gli gty gen gtl gst gmn gdr ghe grs grm grd ghr gki gin gpl gle gso gva gck gci gcp gcl gcs gcv fo y1 y2 := by
  intro n hn trp mC mU mS mL mD tC tU tS tL tD bC bU bS bL bD rC rU rS rL rD fml fmb ftl ftt fte fsb fsr vth vtp vme vta vpl vel vsg vus vrw vur vwr vch gpg gli gty gen gtl gst gmn gdr ghe grs grm grd ghr gki gin gpl gle gso gva gck gci gcp gcl gcs gcv fo y1 y2 hI
  obtain ⟨rfl, ⟨C, c, P, hM⟩, hT, hB, hR, hF, rfl⟩ := hI
  have hM1 := gM.mono ⟨C, c, P, hM⟩
  replace hT := hT.mono
  obtain ⟨rfl, rfl, hC, hs, rfl, rfl, hg, hz, hS, rfl, rfl, rfl, hc, hw, hfb, hrow, h0, hout⟩ := id hM
  have e0 : ((nI C).toInt ≤ 6) = True := eq_true (by rw [nI_toInt (by omega)]; omega)
  have e8 : vp_in (nI c) 520 = True := eq_true (vp_in_nI (by omega) (by decide))
  simp only [wq_0, wp_Pm_memory, wp_Md_memory]
  have eL := left_m hs
  by_cases h6 : C = 6
  · have g1 : ly_full (nI C) 6 = 1 := full_yes (by omega) (by omega)
    have g2 : (nI C = 6) = True := eq_true (by rw [h6]; rfl)
    simp only [g1, g2, not_true_eq_false, not_false_eq_true, true_implies, false_implies, implies_true, and_true, true_and, forall_eq, if_true, if_false, true_or, or_true, eui, eiu, nb0, nb1, z10, z20, z01, z02, z12, z21, lt00, lt04, lt05, ps10, ps14, ps15]
    exact ⟨rfl, hM1, hT, hB, hR, hF, rfl⟩
  · have g1 : ly_full (nI C) 6 = 0 := full_no (by omega) (by omega)
    have g2 : (nI C = 6) = False := eq_false (fun q => h6 ((nI_eq (b := 6) (by omega) (by omega)).mp q))
    by_cases a1 : y1 < 0
    · simp only [g1, g2, a1, not_true_eq_false, not_false_eq_true, true_implies, false_implies, implies_true, and_true, true_and, forall_eq, if_true, if_false, true_or, or_true, eui, eiu, nb0, nb1, z10, z20, z01, z02, z12, z21, lt00, lt04, lt05, ps10, ps14, ps15]
      exact ⟨rfl, hM1, hT, hB, hR, hF, rfl⟩
    by_cases a2 : y2 < y1
    · simp only [g1, g2, a1, a2, not_true_eq_false, not_false_eq_true, true_implies, false_implies, implies_true, and_true, true_and, forall_eq, if_true, if_false, true_or, or_true, eui, eiu, nb0, nb1, z10, z20, z01, z02, z12, z21, lt00, lt04, lt05, ps10, ps14, ps15]
      exact ⟨rfl, hM1, hT, hB, hR, hF, rfl⟩
    by_cases a3 : 65536 < y2
    · simp only [g1, g2, a1, a2, a3, not_true_eq_false, not_false_eq_true, true_implies, false_implies, implies_true, and_true, true_and, forall_eq, if_true, if_false, true_or, or_true, eui, eiu, nb0, nb1, z10, z20, z01, z02, z12, z21, lt00, lt04, lt05, ps10, ps14, ps15]
      exact ⟨rfl, hM1, hT, hB, hR, hF, rfl⟩
    by_cases a4 : y1 ≤ nI (48 - psum P C)
    · have v1 : vp_in (nI C) 6 = True := eq_true (vp_in_nI (by omega) (by decide))
      have v2 : nI C + 1 - 1 = nI C := by rw [nI_1]; exact nI_pred C
      have v3 : (nI C).toNatClampNeg = C := nI_clamp (by omega)
      simp only [g1, g2, a1, a2, a3, a4, eL, v1, v2, v3, not_true_eq_false, not_false_eq_true, true_implies, false_implies, implies_true, and_true, true_and, forall_eq, if_true, if_false, true_or, or_true, eui, eiu, nb0, nb1, z10, z20, z01, z02, z12, z21, lt00, lt04, lt05, ps10, ps14, ps15]
      obtain ⟨p, hp, rfl⟩ := nI_of a1
      rw [nI_leI hp (by omega)] at a4
      exact ⟨rfl, gM_app hM (by omega) a4 y2, hT, hB, hR, hF, rfl⟩
    · simp only [g1, g2, a1, a2, a3, a4, eL, not_true_eq_false, not_false_eq_true, true_implies, false_implies, implies_true, and_true, true_and, forall_eq, if_true, if_false, true_or, or_true, eui, eiu, nb0, nb1, z10, z20, z01, z02, z12, z21, lt00, lt04, lt05, ps10, ps14, ps15]
      exact ⟨rfl, hM1, hT, hB, hR, hF, rfl⟩
theorem q_1 : ∀ n, n < 512 → ∀ (trp : Int32) (mC : Int32) (mU : Int32) (mS : Nat → Int32) (mL : Nat → Int32) (mD : Nat → Int32) (tC : Int32) (tU : Int32) (tS : Nat → Int32) (tL : Nat → Int32) (tD : Nat → Int32) (bC : Int32) (bU : Int32) (bS : Nat → Int32) (bL : Nat → Int32) (bD : Nat → Int32) (rC : Int32) (rU : Int32) (rS : Nat → Int32) (rL : Nat → Int32) (rD : Nat → Int32) (fml : Nat → Int32) (fmb : Nat → Int32) (ftl : Nat → Int32) (ftt : Nat → Int32) (fte : Nat → Int32) (fsb : Nat → Int32) (fsr : Nat → Int32) (vth : Int32) (vtp : Int32) (vme : Int32) (vta : Int32) (vpl : Int32) (vel : Int32) (vsg : Int32) (vus : Int32) (vrw : Int32) (vur : Int32) (vwr : Int32) (vch : Int32) (gpg : Nat → Int32) (gli : Nat → Int32) (gty : Nat → Int32) (gen : Nat → Int32) (gtl : Nat → Int32) (gst : Nat → Int32) (gmn : Nat → Int32) (gdr : Nat → Int32) (ghe : Nat → Int32) (grs : Nat → Int32) (grm : Nat → Int32) (grd : Nat → Int32) (ghr : Nat → Int32) (gki : Nat → Int32) (gin : Nat → Int32) (gpl : Nat → Int32) (gle : Nat → Int32) (gso : Nat → Int32) (gva : Nat → Int64) (gck : Nat → Int32) (gci : Nat → Int32) (gcp : Nat → Int32) (gcl : Nat → Int32) (gcs : Nat → Int32) (gcv : Nat → Int32) (fo : Nat → Int64) (y1 y2 : Int32), Inv n trp mC mU mS mL mD tC tU tS tL tD bC bU bS bL bD rC rU rS rL rD fml fmb ftl ftt fte fsb fsr vth vtp vme vta vpl vel vsg vus vrw vur vwr vch gpg gli gty gen gtl gst gmn gdr ghe grs grm grd ghr gki gin gpl gle gso gva gck gci gcp gcl gcs gcv fo → wq_1 (Inv (n + 1)) trp mC mU mS mL mD tC tU tS tL tD bC bU bS bL bD rC rU rS rL rD fml fmb ftl ftt fte fsb fsr vth vtp vme vta vpl vel vsg vus vrw vur vwr vch gpg gli gty gen gtl gst gmn gdr ghe grs grm grd ghr gki gin gpl gle gso gva gck gci gcp gcl gcs gcv fo y1 y2 := by
  intro n hn trp mC mU mS mL mD tC tU tS tL tD bC bU bS bL bD rC rU rS rL rD fml fmb ftl ftt fte fsb fsr vth vtp vme vta vpl vel vsg vus vrw vur vwr vch gpg gli gty gen gtl gst gmn gdr ghe grs grm grd ghr gki gin gpl gle gso gva gck gci gcp gcl gcs gcv fo y1 y2 hI
  obtain ⟨rfl, ⟨C, c, P, hM⟩, hT, hB, hR, hF, rfl⟩ := hI
  have hM1 := gM.mono ⟨C, c, P, hM⟩
  replace hT := hT.mono
  obtain ⟨rfl, rfl, hC, hs, rfl, rfl, hg, hz, hS, rfl, rfl, rfl, hc, hw, hfb, hrow, h0, hout⟩ := id hM
  have e0 : ((nI C).toInt ≤ 6) = True := eq_true (by rw [nI_toInt (by omega)]; omega)
  have e8 : vp_in (nI c) 520 = True := eq_true (vp_in_nI (by omega) (by decide))
  simp only [wq_1, wp_Pm_grow, wp_Md_grow]
  have eL := left_m hs
  obtain ⟨d, hd, rfl⟩ := un_ex y2
  rcases has_cases (C := C) (by omega) y1 with ⟨hk, -⟩ | ⟨k, hk, rfl⟩
  · simp only [hk, not_true_eq_false, not_false_eq_true, true_implies, false_implies, implies_true, and_true, true_and, forall_eq, if_true, if_false, true_or, or_true, eui, eiu, nb0, nb1, z10, z20, z01, z02, z12, z21, lt00, lt04, lt05, ps10, ps14, ps15]
    exact ⟨rfl, hM1, hT, hB, hR, hF, rfl⟩
  · have hp := psum_le (L := P) hk
    have hpb := psum_lb (P := P) hk
    have hpc := psum_by P C
    have e1 := has_yes hk (show C < 2 ^ 31 by omega)
    have e2 : ly_ln (nI C) (nI k) (fun k => nI (256 * P k)) = nI (256 * P k) := ln_yes hk (by omega) _
    have e3 : ly_st (nI C) (nI k) mS = nI (psum (bys P) k) := by rw [st_yes hk (by omega), hS k hk]
    have e4 : vp_in (nI k) 6 = True := eq_true (vp_in_nI (by omega) (by decide))
    have e5 : (nI k).toNatClampNeg = k := nI_clamp (by omega)
    have e6 : (nI (256 * P k)).toInt64 = lN (256 * P k) := nI_l (by omega)
    have e7 : (nI (P k)).toInt64 * 256 = lN (256 * P k) := by_l (by omega)
    have e9 : nI (256 * P k) / 256 = nI (P k) := by
      rw [show (256 : Int32) = nI 256 from rfl, pk_div (by omega) (by decide) (by decide)]
      congr 1
      omega
    by_cases a1 : 0 < lg_cmp ((nI (P k)).toInt64 + u32 (nI d)) (fml k).toInt64
    · simp only [e0, e1, e2, e3, e4, e5, e6, e7, e8, hg, e9, a1, not_true_eq_false, not_false_eq_true, true_implies, false_implies, implies_true, and_true, true_and, forall_eq, if_true, if_false, true_or, or_true, eui, eiu, nb0, nb1, z10, z20, z01, z02, z12, z21, lt00, lt04, lt05, ps10, ps14, ps15]
      exact ⟨rfl, hM1, hT, hB, hR, hF, rfl⟩
    by_cases a2 : lg_cmp (u32 (nI d)) (nI (48 - psum P C)).toInt64 ≤ 0
    · have hd2 : d ≤ 48 - psum P C := by
        rw [u32_un, un_nI hd, nI_l (by omega), cmp_le (by omega) (by omega)] at a2
        exact a2
      have b1 : (u32 (nI d)).toInt32 * 256 = nI (d * 256) := by rw [u32_i, show (256 : Int32) = nI 256 from rfl, pk_mul]
      have b2 : ly_en (nI C) (nI (psum (bys P) C)) (nI k) mS (fun k => nI (256 * P k)) = nI (psum (bys P) k + 256 * P k) := by
        rw [en_yes hk (by omega), hS k hk, nI_add]
      have b3 : nI (psum (bys P) C) - nI (psum (bys P) k + 256 * P k) = nI (psum (bys P) C - (psum (bys P) k + 256 * P k)) := pk_sub hpb
      generalize hE : psum (bys P) k + 256 * P k = E at *
      have c1 : (nI E < 0) = False := eq_false (nI_pos (by omega))
      have c2 : (nI (E + d * 256) < 0) = False := eq_false (nI_pos (by omega))
      have c3 : (nI (psum (bys P) C - E) < 0) = False := eq_false (nI_pos (by omega))
      have c4 : (nI E).toNatClampNeg = E := nI_clamp (by omega)
      have c5 : (nI (E + d * 256)).toNatClampNeg = E + d * 256 := nI_clamp (by omega)
      have c6 : (nI (psum (bys P) C - E)).toNatClampNeg = psum (bys P) C - E := nI_clamp (by omega)
      have c7 : (E + (psum (bys P) C - E) ≤ 12288) = True := eq_true (by omega)
      have c8 : (E + d * 256 + (psum (bys P) C - E) ≤ 12288) = True := eq_true (by omega)
      have c9 : (nI E ≤ nI (E + d * 256)) = True := eq_true (nI_le (by omega) (by omega))
      have c10 : (nI (E + d * 256) ≤ nI 12288) = True := eq_true (nI_le (by omega) (by decide))
      have c11 : (12288 < 2147483648) = True := eq_true (by decide)
      have c12 : (6 < 2147483648) = True := eq_true (by decide)
      have c13 : (vp_nar .byte 0 = 0) = True := eq_true (by decide)
      have c14 : (nI C).toNatClampNeg = C := nI_clamp (by omega)
      have c15 : nI E + nI (d * 256) = nI (E + d * 256) := nI_add _ _
      simp only [e0, e1, e2, e3, e4, e5, e6, e7, e8, hg, e9, a1, a2, eL, b1, b2, b3, c15, c1, c2, c3, c4, c5, c6, c7, c8, c9, c10, c11, c12, c13, c14, show (fits .byte (.int (fmb _)) = true) = True from eq_true (hfb _), not_true_eq_false, not_false_eq_true, true_implies, false_implies, implies_true, and_true, true_and, forall_eq, if_true, if_false, true_or, or_true, eui, eiu, nb0, nb1, z10, z20, z01, z02, z12, z21, lt00, lt04, lt05, ps10, ps14, ps15]
      subst hE
      have := gM_grow hM hk hd2
      simp only [hg] at this
      exact ⟨rfl, this, hT, hB, hR, hF, rfl⟩
    · simp only [e0, e1, e2, e3, e4, e5, e6, e7, e8, hg, e9, a1, a2, eL, not_true_eq_false, not_false_eq_true, true_implies, false_implies, implies_true, and_true, true_and, forall_eq, if_true, if_false, true_or, or_true, eui, eiu, nb0, nb1, z10, z20, z01, z02, z12, z21, lt00, lt04, lt05, ps10, ps14, ps15]
      exact ⟨rfl, hM1, hT, hB, hR, hF, rfl⟩
