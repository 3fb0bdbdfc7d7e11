/-! ===== the invariant between the class's state and the reference's ===== -/
abbrev bys (P : Nat → Nat) : Nat → Nat := fun k => 256 * P k
abbrev byR : Int32 → Int32 → Prop := fun x y => y = x &&& 255
abbrev FB (f : Nat → Int32) : Prop := ∀ i, fits .byte (.int (f i)) = true
theorem psum_by (P : Nat → Nat) (C : Nat) : psum (bys P) C = 256 * psum P C := psum_mul P C
theorem psum_lb {P : Nat → Nat} {k C : Nat} (h : k < C) : psum (bys P) k + 256 * P k ≤ psum (bys P) C := psum_le (L := bys P) h
def gMx (n C c : Nat) (P : Nat → Nat) (mC : Int32) (mU : Int32) (mS : Nat → Int32) (mL : Nat → Int32) (fml : Nat → Int32) (fmb : Nat → Int32) (vme : Int32) (vpl : Int32) (vus : Int32) (vwr : Int32) (gpg : Nat → Int32) (gli : Nat → Int32) (gki : Nat → Int32) (gin : Nat → Int32) (gpl : Nat → Int32) (gle : Nat → Int32) (gso : Nat → Int32) (gva : Nat → Int64) (ghe : Nat → Int32) : Prop :=
  mC = nI C ∧ vme = nI C ∧ C ≤ 6 ∧ psum P C ≤ 48 ∧ mU = nI (psum (bys P) C) ∧ vpl = nI (48 - psum P C) ∧ (∀ k, gpg k = nI (P k)) ∧ (∀ k, C ≤ k → P k = 0) ∧ (∀ k, k < C → mS k = nI (psum (bys P) k)) ∧ mL = (fun k => nI (256 * P k)) ∧ fml = gli ∧ vwr = nI c ∧ c ≤ n ∧ wr_ok gki gle gso c vus.toNatClampNeg ∧ FB fmb ∧
  rowI C (bys P) byR fmb (fun k j => byA gki gin gpl gle gso gva ghe (nI k) c (nI j)) ∧ (∀ i, psum (bys P) C ≤ i → fmb i = 0) ∧ (∀ k, k < 6 → ∀ j, j < 12288 → 256 * P k ≤ j → byA gki gin gpl gle gso gva ghe (nI k) c (nI j) = 0)
def gM (n : Nat) (mC : Int32) (mU : Int32) (mS : Nat → Int32) (mL : Nat → Int32) (fml : Nat → Int32) (fmb : Nat → Int32) (vme : Int32) (vpl : Int32) (vus : Int32) (vwr : Int32) (gpg : Nat → Int32) (gli : Nat → Int32) (gki : Nat → Int32) (gin : Nat → Int32) (gpl : Nat → Int32) (gle : Nat → Int32) (gso : Nat → Int32) (gva : Nat → Int64) (ghe : Nat → Int32) : Prop := ∃ (C c : Nat) (P : Nat → Nat), gMx n C c P mC mU mS mL fml fmb vme vpl vus vwr gpg gli gki gin gpl gle gso gva ghe
def gTx (n C c : Nat) (T : Nat → Nat) (tC : Int32) (tU : Int32) (tS : Nat → Int32) (tL : Nat → Int32) (ftl : Nat → Int32) (ftt : Nat → Int32) (fte : Nat → Int32) (vta : Int32) (vel : Int32) (vur : Int32) (vch : Int32) (gty : Nat → Int32) (gen : Nat → Int32) (gtl : Nat → Int32) (gck : Nat → Int32) (gci : Nat → Int32) (gcp : Nat → Int32) (gcl : Nat → Int32) (gcs : Nat → Int32) (gcv : Nat → Int32) (ghr : Nat → Int32) : Prop :=
  tC = nI C ∧ vta = nI C ∧ C ≤ 6 ∧ psum T C ≤ 200 ∧ tU = nI (psum T C) ∧ vel = nI (200 - psum T C) ∧ gen = (fun k => nI (T k)) ∧ (∀ k, C ≤ k → T k = 0) ∧ (∀ k, k < C → tS k = nI (psum T k)) ∧ tL = (fun k => nI (T k)) ∧ ftl = gtl ∧ ftt = gty ∧ vch = nI c ∧ c ≤ n ∧ wr_ok gck gcl gcs c vur.toNatClampNeg ∧
  rowI C T (fun x y => x = y) fte (fun k j => enA gck gci gcp gcl gcs gcv ghr c (nI k) (nI j)) ∧ (∀ k, k < 6 → ∀ j, j < 200 → T k ≤ j → enA gck gci gcp gcl gcs gcv ghr c (nI k) (nI j) = (-1))
def gT (n : Nat) (tC : Int32) (tU : Int32) (tS : Nat → Int32) (tL : Nat → Int32) (ftl : Nat → Int32) (ftt : Nat → Int32) (fte : Nat → Int32) (vta : Int32) (vel : Int32) (vur : Int32) (vch : Int32) (gty : Nat → Int32) (gen : Nat → Int32) (gtl : Nat → Int32) (gck : Nat → Int32) (gci : Nat → Int32) (gcp : Nat → Int32) (gcl : Nat → Int32) (gcs : Nat → Int32) (gcv : Nat → Int32) (ghr : Nat → Int32) : Prop := ∃ (C c : Nat) (T : Nat → Nat), gTx n C c T tC tU tS tL ftl ftt fte vta vel vur vch gty gen gtl gck gci gcp gcl gcs gcv ghr
def gSx (room C U : Nat) (S M : Nat → Nat) (bC bU : Int32) (bS bL bD : Nat → Int32) (vsg vus : Int32) (gst gmn gdr : Nat → Int32) : Prop :=
  bC = nI C ∧ vsg = nI C ∧ C ≤ 24 ∧ bU = nI U ∧ vus = nI U ∧ U ≤ room ∧ bS = gst ∧ bD = gdr ∧ (∀ k, gst k = nI (S k)) ∧ (∀ k, gmn k = nI (M k)) ∧ (∀ k, k < C → S k + M k ≤ U) ∧ (∀ k, C ≤ k → M k = 0 ∧ gdr k = 0) ∧ (∀ k, bL k = if gdr k = 0 then gmn k else 0)
def gS (room : Nat) (bC bU : Int32) (bS bL bD : Nat → Int32) (vsg vus : Int32) (gst gmn gdr : Nat → Int32) : Prop := ∃ (C U : Nat) (S M : Nat → Nat), gSx room C U S M bC bU bS bL bD vsg vus gst gmn gdr
def Inv : Nat → lwK := fun n trp mC mU mS mL mD tC tU tS tL tD bC bU bS bL bD rC rU rS rL rD fml fmb ftl ftt fte fsb fsr vth vtp vme vta vpl vel vsg vus vrw vur vwr vch gpg gli gty gen gtl gst gmn gdr ghe grs grm grd ghr gki gin gpl gle gso gva gck gci gcp gcl gcs gcv fo =>
  trp = vtp ∧ gM n mC mU mS mL fml fmb vme vpl vus vwr gpg gli gki gin gpl gle gso gva ghe ∧ gT n tC tU tS tL ftl ftt fte vta vel vur vch gty gen gtl gck gci gcp gcl gcs gcv ghr ∧ gS 600 bC bU bS bL bD vsg vus gst gmn gdr ∧ gS 200 rC rU rS rL rD vrw vur grs grm grd ∧ (FB fsb ∧ ∀ i, ghe i = fsb i &&& 255) ∧ fsr = ghr
theorem gM.mono {mC : Int32} {mU : Int32} {mS : Nat → Int32} {mL : Nat → Int32} {fml : Nat → Int32} {fmb : Nat → Int32} {vme : Int32} {vpl : Int32} {vus : Int32} {vwr : Int32} {gpg : Nat → Int32} {gli : Nat → Int32} {gki : Nat → Int32} {gin : Nat → Int32} {gpl : Nat → Int32} {gle : Nat → Int32} {gso : Nat → Int32} {gva : Nat → Int64} {ghe : Nat → Int32} {n : Nat} (h : gM n mC mU mS mL fml fmb vme vpl vus vwr gpg gli gki gin gpl gle gso gva ghe) : gM (n + 1) mC mU mS mL fml fmb vme vpl vus vwr gpg gli gki gin gpl gle gso gva ghe := by
  obtain ⟨C, c, P, h1, h2, h3, h4, h5, h6, h7, h8, h9, h10, h11, h12, h13, h14⟩ := h
  exact ⟨C, c, P, h1, h2, h3, h4, h5, h6, h7, h8, h9, h10, h11, h12, Nat.le_succ_of_le h13, h14⟩
theorem gT.mono {tC : Int32} {tU : Int32} {tS : Nat → Int32} {tL : Nat → Int32} {ftl : Nat → Int32} {ftt : Nat → Int32} {fte : Nat → Int32} {vta : Int32} {vel : Int32} {vur : Int32} {vch : Int32} {gty : Nat → Int32} {gen : Nat → Int32} {gtl : Nat → Int32} {gck : Nat → Int32} {gci : Nat → Int32} {gcp : Nat → Int32} {gcl : Nat → Int32} {gcs : Nat → Int32} {gcv : Nat → Int32} {ghr : Nat → Int32} {n : Nat} (h : gT n tC tU tS tL ftl ftt fte vta vel vur vch gty gen gtl gck gci gcp gcl gcs gcv ghr) : gT (n + 1) tC tU tS tL ftl ftt fte vta vel vur vch gty gen gtl gck gci gcp gcl gcs gcv ghr := by
  obtain ⟨C, c, P, h1, h2, h3, h4, h5, h6, h7, h8, h9, h10, h11, h12, h13, h14, h15⟩ := h
  exact ⟨C, c, P, h1, h2, h3, h4, h5, h6, h7, h8, h9, h10, h11, h12, h13, Nat.le_succ_of_le h14, h15⟩
theorem nl0 {m : Nat} (h : m < 2 ^ 31) : (nI m).toInt64 = 0 ↔ m = 0 := by
  rw [nI_l h, show (0 : Int64) = lN 0 from rfl, lN_eq h (by decide)]
/-- a stretch of a memory is written: the class's row, the reference's log -/
theorem gM_wr {mC : Int32} {mU : Int32} {mS : Nat → Int32} {mL : Nat → Int32} {fml : Nat → Int32} {fmb : Nat → Int32} {vme : Int32} {vpl : Int32} {vus : Int32} {vwr : Int32} {gpg : Nat → Int32} {gli : Nat → Int32} {gki : Nat → Int32} {gin : Nat → Int32} {gpl : Nat → Int32} {gle : Nat → Int32} {gso : Nat → Int32} {gva : Nat → Int64} {ghe : Nat → Int32} {n C c : Nat} {P : Nat → Nat} (h : gMx n C c P mC mU mS mL fml fmb vme vpl vus vwr gpg gli gki gin gpl gle gso gva ghe) (hn : n < 512) {k0 t m : Nat} (hk : k0 < C) (ht : t + m ≤ 256 * P k0) {x MM PL LE : Int32} (hx : x = nI m) (hMM : MM = nI k0) (hPL : PL = nI t) (hLE : LE = nI m) (K SO : Int32) (V : Int64) {f' : Nat → Int32}
    (hf : ∀ i, ¬ (psum (bys P) k0 + t ≤ i ∧ i < psum (bys P) k0 + t + m) → f' i = fmb i) (hb : FB f')
    (hv : ∀ i, i < m → (if K = 1 then ((V >>> ((8 * nI i).toInt64 &&& 63)) &&& 255).toInt32 else if K = 2 then (V &&& 255).toInt32 else if K = 4 then ghe (SO + nI i).toNatClampNeg else byA gki gin gpl gle gso gva ghe (nI k0) c (SO + nI i)) = f' (psum (bys P) k0 + t + i) &&& 255)
    (h4 : K = 4 → ∀ a : Int32, ¬ a < 0 → ¬ nI m ≤ a → vp_in (SO + a) vus.toNatClampNeg) :
    gM (n + 1) mC mU mS mL fml f' vme vpl vus (if x.toInt64 = 0 then vwr else vwr + 1) gpg gli (if x.toInt64 = 0 then gki else upd gki vwr.toNatClampNeg K) (if x.toInt64 = 0 then gin else upd gin vwr.toNatClampNeg MM) (if x.toInt64 = 0 then gpl else upd gpl vwr.toNatClampNeg PL) (if x.toInt64 = 0 then gle else upd gle vwr.toNatClampNeg LE) (if x.toInt64 = 0 then gso else upd gso vwr.toNatClampNeg SO) (if x.toInt64 = 0 then gva else vp_updL gva vwr.toNatClampNeg V) ghe := by
  obtain ⟨h1, h2, h3, h4', h5, h6, h7, h8, h9, h10, h11, rfl, h13, h14, h15, h16, h17, h18⟩ := h
  have hP := psum_le (L := P) hk
  have hPb := psum_lb (P := P) hk
  have hmul := psum_by P C
  have hm : m ≤ 12288 := by omega
  subst hx hMM hPL hLE
  by_cases m0 : m = 0
  · have e : f' = fmb := funext fun i => hf i (by omega)
    subst e
    simp only [if_pos ((nl0 (by omega)).mpr m0)]
    exact ⟨C, c, P, h1, h2, h3, h4', h5, h6, h7, h8, h9, h10, h11, rfl, by omega, h14, h15, h16, h17, h18⟩
  · have e0 : ¬ (nI m).toInt64 = 0 := fun q => m0 ((nl0 (by omega)).mp q)
    have hB : ∀ k j, k < 6 → j < 12288 → byA (upd gki c K) (upd gin c (nI k0)) (upd gpl c (nI t)) (upd gle c (nI m)) (upd gso c SO) (vp_updL gva c V) ghe (nI k) (c + 1) (nI j) = if k0 = k ∧ t ≤ j ∧ j < t + m then (if K = 1 then ((V >>> ((8 * nI (j - t)).toInt64 &&& 63)) &&& 255).toInt32 else if K = 2 then (V &&& 255).toInt32 else if K = 4 then ghe (SO + nI (j - t)).toNatClampNeg else byA gki gin gpl gle gso gva ghe (nI k0) c (SO + nI (j - t))) else byA gki gin gpl gle gso gva ghe (nI k) c (nI j) := by
      intro k j hk6 hj
      rw [byA_new]
      by_cases hc : k0 = k ∧ t ≤ j ∧ j < t + m
      · rw [if_pos ((log_in (by omega) (by omega) (by omega) (by omega) (by omega)).mpr hc), if_pos hc, pk_sub hc.2.1, hc.1]
      · rw [if_neg (fun q => hc ((log_in (by omega) (by omega) (by omega) (by omega) (by omega)).mp q)), if_neg hc]
    simp only [if_neg e0]
    rw [nI_clamp (by omega)]
    refine ⟨C, c + 1, P, h1, h2, h3, h4', h5, h6, h7, h8, h9, h10, h11, nI_1 c, by omega, ?_, hb, ?_, ?_, ?_⟩
    · intro w hw
      rcases Nat.lt_or_eq_of_le (Nat.le_of_lt_succ hw) with q | q
      · rw [upd_ne (by omega), upd_ne (by omega), upd_ne (by omega)]
        exact h14 w q
      · subst q
        rw [upd_eq, upd_eq, upd_eq]
        exact h4
    · refine row_write (t := t) (n := m) (k0 := k0) h16 ht hf (fun k j hk1 hj hc => ?_) (fun i hi => ?_)
      · have := psum_lb (P := P) hk1
        have hj : j < 256 * P k := hj
        show byA _ _ _ _ _ _ _ _ _ _ = _
        rw [hB k j (by omega) (by omega), if_neg hc]
      · show byA _ _ _ _ _ _ _ _ _ _ = _
        rw [hB k0 (t + i) (by omega) (by omega), if_pos ⟨rfl, by omega, by omega⟩, Nat.add_sub_cancel_left]
        exact hv i hi
    · intro i hi
      rw [hf i (by omega)]
      exact h17 i hi
    · intro k hk6 j hj hjk
      rw [hB k j hk6 hj, if_neg]
      · exact h18 k hk6 j hj hjk
      · rintro ⟨rfl, q1, q2⟩
        omega

