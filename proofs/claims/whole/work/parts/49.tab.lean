/-! ===== tables ===== -/
/-- what the reference's log of changes says when it has one more -/
theorem chg {vch : Int32} {gck gci gcp gcl gcs gcv ghr : Nat → Int32} {n c N : Nat} (hv : vch = nI c) (hc : c ≤ n) (hn : n < 512) (hw : wr_ok gck gcl gcs c N) {k0 t m : Nat} (hk : k0 < 6) (htm : t + m ≤ 200) {x MM PL LE : Int32} (hx : x = nI m) (hMM : MM = nI k0) (hPL : PL = nI t) (hLE : LE = nI m) (K SO V : Int32) (h4 : K = 4 → ∀ a : Int32, ¬ a < 0 → ¬ nI m ≤ a → vp_in (SO + a) N) :
    ∃ c', (if x.toInt64 = 0 then vch else vch + 1) = nI c' ∧ c' ≤ n + 1 ∧ wr_ok (if x.toInt64 = 0 then gck else upd gck vch.toNatClampNeg K) (if x.toInt64 = 0 then gcl else upd gcl vch.toNatClampNeg LE) (if x.toInt64 = 0 then gcs else upd gcs vch.toNatClampNeg SO) c' N ∧
      ∀ k j, k < 6 → j < 200 → enA (if x.toInt64 = 0 then gck else upd gck vch.toNatClampNeg K) (if x.toInt64 = 0 then gci else upd gci vch.toNatClampNeg MM) (if x.toInt64 = 0 then gcp else upd gcp vch.toNatClampNeg PL) (if x.toInt64 = 0 then gcl else upd gcl vch.toNatClampNeg LE) (if x.toInt64 = 0 then gcs else upd gcs vch.toNatClampNeg SO) (if x.toInt64 = 0 then gcv else upd gcv vch.toNatClampNeg V) ghr c' (nI k) (nI j) = if k0 = k ∧ t ≤ j ∧ j < t + m then (if K = 2 then V else if K = 4 then ghr (SO + nI (j - t)).toNatClampNeg else enA gck gci gcp gcl gcs gcv ghr c V (SO + nI (j - t))) else enA gck gci gcp gcl gcs gcv ghr c (nI k) (nI j) := by
  subst hv hx hMM hPL hLE
  by_cases m0 : m = 0
  · simp only [if_pos ((nl0 (show m < 2 ^ 31 by omega)).mpr m0)]
    refine ⟨c, rfl, by omega, hw, fun k j _ _ => ?_⟩
    rw [if_neg (by omega)]
  · have e0 : ¬ (nI m).toInt64 = 0 := fun q => m0 ((nl0 (by omega)).mp q)
    simp only [if_neg e0]
    rw [nI_clamp (by omega)]
    refine ⟨c + 1, nI_1 c, by omega, ?_, fun k j hk6 hj => ?_⟩
    · intro w hw1
      rcases Nat.lt_or_eq_of_le (Nat.le_of_lt_succ hw1) with q | q
      · rw [upd_ne (by omega), upd_ne (by omega), upd_ne (by omega)]
        exact hw w q
      · subst q
        rw [upd_eq, upd_eq, upd_eq]
        exact h4
    · rw [enA_new]
      by_cases hc : k0 = k ∧ t ≤ j ∧ j < t + m
      · rw [if_pos ((log_in (by omega) (by omega) (by omega) (by omega) (by omega)).mpr hc), if_pos hc, pk_sub hc.2.1]
      · rw [if_neg (fun q => hc ((log_in (by omega) (by omega) (by omega) (by omega) (by omega)).mp q)), if_neg hc]
theorem gT_wr {tC : Int32} {tU : Int32} {tS : Nat → Int32} {tL : Nat → Int32} {ftl : Nat → Int32} {ftt : Nat → Int32} {fte : Nat → Int32} {vta : Int32} {vel : Int32} {vur : Int32} {vch : Int32} {gty : Nat → Int32} {gen : Nat → Int32} {gtl : Nat → Int32} {gck : Nat → Int32} {gci : Nat → Int32} {gcp : Nat → Int32} {gcl : Nat → Int32} {gcs : Nat → Int32} {gcv : Nat → Int32} {ghr : Nat → Int32} {n C c : Nat} {T : Nat → Nat} (h : gTx n C c T tC tU tS tL ftl ftt fte vta vel vur vch gty gen gtl gck gci gcp gcl gcs gcv ghr) (hn : n < 512) {k0 t m : Nat} (hk : k0 < C) (ht : t + m ≤ T k0) {x MM PL LE : Int32} (hx : x = nI m) (hMM : MM = nI k0) (hPL : PL = nI t) (hLE : LE = nI m) (K SO V : Int32) {f' : Nat → Int32}
    (hf : ∀ i, ¬ (psum T k0 + t ≤ i ∧ i < psum T k0 + t + m) → f' i = fte i)
    (hv : ∀ i, i < m → f' (psum T k0 + t + i) = (if K = 2 then V else if K = 4 then ghr (SO + nI i).toNatClampNeg else enA gck gci gcp gcl gcs gcv ghr c V (SO + nI i)))
    (h4 : K = 4 → ∀ a : Int32, ¬ a < 0 → ¬ nI m ≤ a → vp_in (SO + a) vur.toNatClampNeg) :
    gT (n + 1) tC tU tS tL ftl ftt f' vta vel vur (if x.toInt64 = 0 then vch else vch + 1) gty gen gtl (if x.toInt64 = 0 then gck else upd gck vch.toNatClampNeg K) (if x.toInt64 = 0 then gci else upd gci vch.toNatClampNeg MM) (if x.toInt64 = 0 then gcp else upd gcp vch.toNatClampNeg PL) (if x.toInt64 = 0 then gcl else upd gcl vch.toNatClampNeg LE) (if x.toInt64 = 0 then gcs else upd gcs vch.toNatClampNeg SO) (if x.toInt64 = 0 then gcv else upd gcv vch.toNatClampNeg V) ghr := by
  obtain ⟨h1, h2, h3, h4', h5, h6, h7, h8, h9, h10, h11, h12, h13, h14, h15, h16, h17⟩ := h
  have hP := psum_le (L := T) hk
  obtain ⟨c', r1, r2, r3, r4⟩ := chg (ghr := ghr) (gci := gci) (gcp := gcp) (gcv := gcv) h13 h14 hn h15 (k0 := k0) (t := t) (m := m) (by omega) (by omega) hx hMM hPL hLE K SO V h4
  refine ⟨C, c', T, h1, h2, h3, h4', h5, h6, h7, h8, h9, h10, h11, h12, r1, r2, r3, ?_, fun k hk6 j hj hjk => ?_⟩
  · refine row_write (t := t) (n := m) (k0 := k0) h16 ht hf (fun k j hk1 hj hc => ?_) (fun i hi => ?_)
    · have := psum_le (L := T) hk1
      show enA _ _ _ _ _ _ _ _ _ _ = _
      rw [r4 k j (by omega) (by omega), if_neg hc]
    · show _ = enA _ _ _ _ _ _ _ _ _ _
      rw [r4 k0 (t + i) (by omega) (by omega), if_pos ⟨rfl, by omega, by omega⟩, Nat.add_sub_cancel_left]
      exact hv i hi
  · rw [r4 k j hk6 hj, if_neg]
    · exact h17 k hk6 j hj hjk
    · rintro ⟨rfl, q1, q2⟩
      omega
theorem gT_app {tC : Int32} {tU : Int32} {tS : Nat → Int32} {tL : Nat → Int32} {ftl : Nat → Int32} {ftt : Nat → Int32} {fte : Nat → Int32} {vta : Int32} {vel : Int32} {vur : Int32} {vch : Int32} {gty : Nat → Int32} {gen : Nat → Int32} {gtl : Nat → Int32} {gck : Nat → Int32} {gci : Nat → Int32} {gcp : Nat → Int32} {gcl : Nat → Int32} {gcs : Nat → Int32} {gcv : Nat → Int32} {ghr : Nat → Int32} {n C c p : Nat} {T : Nat → Nat} (h : gTx n C c T tC tU tS tL ftl ftt fte vta vel vur vch gty gen gtl gck gci gcp gcl gcs gcv ghr) (hC : C < 6) (hp : p ≤ 200 - psum T C) (lim typ : Int32) :
    gT (n + 1) (tC + 1) (tU + nI p) (upd tS C tU) (upd tL C (nI p)) (upd ftl C lim) (upd ftt C typ) (ar_fill fte (psum T C) (psum T C + p) (-1)) (vta + 1) (vel - nI p) vur vch (upd gty C typ) (upd gen C (nI p)) (upd gtl C lim) gck gci gcp gcl gcs gcv ghr := by
  obtain ⟨rfl, rfl, -, hs, rfl, rfl, rfl, hz, hS, rfl, rfl, rfl, rfl, hc, hw, hrow, hout⟩ := h
  have hpp : psum (updN T C p) (C + 1) = psum T C + p := by
    simp only [psum]
    rw [psum_upd (Nat.le_refl _), updN_eq]
  have hu : upd (fun k => nI (T k)) C (nI p) = fun k => nI (updN T C p k) := by
    funext k
    by_cases q : k = C
    · subst q
      rw [upd_eq, updN_eq]
    · rw [upd_ne q, updN_ne q]
  refine ⟨C + 1, c, updN T C p, nI_1 C, nI_1 C, by omega, by omega, ?_, ?_, hu, fun k hk => ?_, fun k hk => ?_, hu, rfl, rfl, rfl, by omega, hw, ?_, fun k hk j hj hjk => ?_⟩
  · rw [hpp, nI_add]
  · rw [hpp, pk_sub (by omega)]
    congr 1
    omega
  · rw [updN_ne (by omega)]
    exact hz k (by omega)
  · rw [psum_upd (by omega)]
    by_cases q : k = C
    · subst q
      rw [upd_eq]
    · rw [upd_ne q, hS k (by omega)]
  · refine row_app hrow (fun i hi => ?_) (fun _ _ _ _ => rfl) (fun j hj => ?_)
    · unfold ar_fill
      rw [if_neg (by omega)]
    · show _ = enA _ _ _ _ _ _ _ _ _ _
      rw [fill_in hj, hout C hC j (by omega) (by rw [hz C (Nat.le_refl _)]; omega)]
  · by_cases q : k = C
    · subst q
      exact hout k hk j hj (by rw [hz k (Nat.le_refl _)]; omega)
    · rw [updN_ne q] at hjk
      exact hout k hk j hj hjk
theorem gT_grow {tC : Int32} {tU : Int32} {tS : Nat → Int32} {tL : Nat → Int32} {ftl : Nat → Int32} {ftt : Nat → Int32} {fte : Nat → Int32} {vta : Int32} {vel : Int32} {vur : Int32} {vch : Int32} {gty : Nat → Int32} {gen : Nat → Int32} {gtl : Nat → Int32} {gck : Nat → Int32} {gci : Nat → Int32} {gcp : Nat → Int32} {gcl : Nat → Int32} {gcs : Nat → Int32} {gcv : Nat → Int32} {ghr : Nat → Int32} {n C c d k0 : Nat} {T : Nat → Nat} (h : gTx n C c T tC tU tS tL ftl ftt fte vta vel vur vch gty gen gtl gck gci gcp gcl gcs gcv ghr) (hn : n < 512) (hk : k0 < C) (hd : d ≤ 200 - psum T C) {x MM PL LE : Int32} (hx : x = nI d) (hMM : MM = nI k0) (hPL : PL = nI (T k0)) (hLE : LE = nI d) (V SO : Int32) :
    gT (n + 1) tC (tU + nI d) (ly_shift tS k0 C (nI d)) (upd tL k0 (tL k0 + nI d)) ftl ftt (ar_fill (va_cpy fte fte (psum T k0 + T k0) (psum T k0 + T k0 + d) (psum T C - (psum T k0 + T k0))) (psum T k0 + T k0) (psum T k0 + T k0 + d) V) vta (vel - nI d) vur (if x.toInt64 = 0 then vch else vch + 1) gty (upd gen k0 (gen k0 + nI d)) gtl (if x.toInt64 = 0 then gck else upd gck vch.toNatClampNeg 2) (if x.toInt64 = 0 then gci else upd gci vch.toNatClampNeg MM) (if x.toInt64 = 0 then gcp else upd gcp vch.toNatClampNeg PL) (if x.toInt64 = 0 then gcl else upd gcl vch.toNatClampNeg LE) (if x.toInt64 = 0 then gcs else upd gcs vch.toNatClampNeg SO) (if x.toInt64 = 0 then gcv else upd gcv vch.toNatClampNeg V) ghr := by
  obtain ⟨rfl, rfl, hC, hs, rfl, rfl, rfl, hz, hS, rfl, rfl, rfl, hv, hc, hw, hrow, hout⟩ := h
  have hpp : psum (updN T k0 (T k0 + d)) C = psum T C + d := psum_add hk
  have hle := psum_le (L := T) hk
  obtain ⟨c', r1, r2, r3, r4⟩ := chg (ghr := ghr) (gci := gci) (gcp := gcp) (gcv := gcv) hv hc hn hw (k0 := k0) (t := T k0) (m := d) (by omega) (by omega) hx hMM hPL hLE 2 SO V (fun q => absurd q (by decide))
  have hu : upd (fun k => nI (T k)) k0 (nI (T k0) + nI d) = fun k => nI (updN T k0 (T k0 + d) k) := by
    funext k
    by_cases q : k = k0
    · subst q
      rw [upd_eq, updN_eq, nI_add]
    · rw [upd_ne q, updN_ne q]
  refine ⟨C, c', updN T k0 (T k0 + d), rfl, rfl, hC, by omega, ?_, ?_, hu, fun k hk => ?_, fun k hk1 => ?_, hu, rfl, rfl, r1, r2, r3, ?_, fun k hk6 j hj hjk => ?_⟩
  · rw [hpp, nI_add]
  · rw [hpp, pk_sub (by omega)]
    congr 1
    omega
  · rw [updN_ne (by omega)]
    exact hz k hk
  · unfold ly_shift
    by_cases q : k0 < k
    · rw [if_pos ⟨q, hk1⟩, psum_add q, hS k hk1, nI_add]
    · rw [if_neg (fun z => q z.1), psum_upd (by omega), hS k hk1]
  · refine row_grow hrow hk (fun i hi => ?_) (fun i hi hi2 => ?_) (fun k j hk1 hj => ?_) (fun j hj hj2 => ?_)
    · unfold ar_fill va_cpy
      rw [if_neg (by omega), if_neg (by omega)]
    · unfold ar_fill va_cpy
      rw [if_neg (by omega), if_pos (by omega)]
      congr 1
      omega
    · have := psum_le (L := T) hk1
      show enA _ _ _ _ _ _ _ _ _ _ = _
      rw [r4 k j (by omega) (by omega), if_neg]
      rintro ⟨rfl, q1, q2⟩
      omega
    · show _ = enA _ _ _ _ _ _ _ _ _ _
      rw [r4 k0 j (by omega) (by omega), if_pos ⟨rfl, hj, hj2⟩, if_pos rfl]
      unfold ar_fill
      rw [if_pos (by omega)]
  · rw [r4 k j hk6 hj]
    by_cases q : k = k0
    · subst q
      rw [updN_eq] at hjk
      rw [if_neg (by omega)]
      exact hout k hk6 j hj (by omega)
    · rw [updN_ne q] at hjk
      rw [if_neg (fun z => q z.1.symm)]
      exact hout k hk6 j hj hjk
theorem left_t {U : Nat} (h : U ≤ 200) : (200 : Int32) - nI U = nI (200 - U) := by
  rw [show (200 : Int32) = nI 200 from rfl, pk_sub h]
theorem e1s {t : Nat} (ht : t < 2 ^ 32) : u32 (nI t) + (1 : Int64) = lN (t + 1) := by
  rw [u32_un, un_nI ht, show (1 : Int64) = lN 1 from rfl, lN_add]
theorem ref_0 {r : Int32} (h : r < (-1)) : is_ref r = 0 := if_pos h
theorem ref_1 {r : Int32} (h : ¬ r < (-1)) : is_ref r = 1 := if_neg h
theorem o10 : ((1 : Int64) = 0) = False := eq_false (by decide)
