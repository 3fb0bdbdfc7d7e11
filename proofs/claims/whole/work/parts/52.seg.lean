/-! ===== segments ===== -/
theorem gS_drop {room : Nat} {bC bU : Int32} {bS bL bD : Nat → Int32} {vsg vus : Int32} {gst gmn gdr : Nat → Int32} {C U : Nat} {S M : Nat → Nat} (h : gSx room C U S M bC bU bS bL bD vsg vus gst gmn gdr) {s : Nat} (hs : s < C) : gS room bC bU bS (upd bL s 0) (upd bD s 1) vsg vus gst gmn (upd gdr s 1) := by
  obtain ⟨h1, h2, h3, h4, h5, h6, h7, rfl, h9, h10, h11, h12, h13⟩ := h
  refine ⟨C, U, S, M, h1, h2, h3, h4, h5, h6, h7, rfl, h9, h10, h11, fun k hk => ?_, fun k => ?_⟩
  · rw [upd_ne (by omega)]
    exact h12 k hk
  · by_cases q : k = s
    · subst q
      rw [upd_eq, upd_eq, if_neg (by decide)]
    · rw [upd_ne q, upd_ne q]
      exact h13 k
theorem gS_new {room : Nat} {bC bU : Int32} {bS bL bD : Nat → Int32} {vsg vus : Int32} {gst gmn gdr : Nat → Int32} {C U : Nat} {S M : Nat → Nat} (h : gSx room C U S M bC bU bS bL bD vsg vus gst gmn gdr) {m : Nat} (hC : C < 24) (hm : U + m ≤ room) : gS room (bC + 1) (bU + nI m) (upd bS C bU) (upd bL C (nI m)) bD (vsg + 1) (vus + nI m) (upd gst C vus) (upd gmn C (gmn C + nI m)) gdr := by
  obtain ⟨rfl, rfl, h3, rfl, rfl, h6, rfl, rfl, h9, h10, h11, h12, h13⟩ := h
  refine ⟨C + 1, U + m, updN S C U, updN M C m, nI_1 C, nI_1 C, by omega, nI_add _ _, nI_add _ _, by omega, rfl, rfl, fun k => ?_, fun k => ?_, fun k hk => ?_, fun k hk => ?_, fun k => ?_⟩
  · by_cases q : k = C
    · subst q
      rw [upd_eq, updN_eq]
    · rw [upd_ne q, updN_ne q, h9]
  · by_cases q : k = C
    · subst q
      rw [upd_eq, updN_eq, h10, (h12 k (Nat.le_refl _)).1, nI_add, Nat.zero_add]
    · rw [upd_ne q, updN_ne q, h10]
  · by_cases q : k = C
    · subst q
      rw [updN_eq, updN_eq]
      omega
    · rw [updN_ne q, updN_ne q]
      have := h11 k (by omega)
      omega
  · rw [updN_ne (by omega)]
    exact h12 k (by omega)
  · by_cases q : k = C
    · subst q
      rw [upd_eq, upd_eq, if_pos (h12 k (Nat.le_refl _)).2, h10, (h12 k (Nat.le_refl _)).1, nI_add, Nat.zero_add]
    · rw [upd_ne q, upd_ne q]
      exact h13 k
theorem gS_more {room : Nat} {bC bU : Int32} {bS bL bD : Nat → Int32} {vsg vus : Int32} {gst gmn gdr : Nat → Int32} {C U : Nat} {S M : Nat → Nat} (h : gSx room C U S M bC bU bS bL bD vsg vus gst gmn gdr) {m : Nat} (hC : 0 < C) (hd : gdr (C - 1) = 0) (hm : U + m ≤ room) : gS room bC (bU + nI m) bS (upd bL (C - 1) (bL (C - 1) + nI m)) bD vsg (vus + nI m) gst (upd gmn (C - 1) (gmn (C - 1) + nI m)) gdr := by
  obtain ⟨rfl, rfl, h3, rfl, rfl, h6, rfl, rfl, h9, h10, h11, h12, h13⟩ := h
  refine ⟨C, U + m, S, updN M (C - 1) (M (C - 1) + m), rfl, rfl, by omega, nI_add _ _, nI_add _ _, by omega, rfl, rfl, h9, fun k => ?_, fun k hk => ?_, fun k hk => ?_, fun k => ?_⟩
  · by_cases q : k = C - 1
    · subst q
      rw [upd_eq, updN_eq, h10, nI_add]
    · rw [upd_ne q, updN_ne q, h10]
  · have := h11 k hk
    by_cases q : k = C - 1
    · subst q
      rw [updN_eq]
      omega
    · rw [updN_ne q]
      omega
  · rw [updN_ne (by omega)]
    exact h12 k (by omega)
  · by_cases q : k = C - 1
    · subst q
      rw [upd_eq, upd_eq, if_pos hd, h13, if_pos hd]
    · rw [upd_ne q, upd_ne q]
      exact h13 k
theorem gM_he {mC : Int32} {mU : Int32} {mS : Nat → Int32} {mL : Nat → Int32} {fml : Nat → Int32} {fmb : Nat → Int32} {vme : Int32} {vpl : Int32} {vus : Int32} {vwr : Int32} {gpg : Nat → Int32} {gli : Nat → Int32} {gki : Nat → Int32} {gin : Nat → Int32} {gpl : Nat → Int32} {gle : Nat → Int32} {gso : Nat → Int32} {gva : Nat → Int64} {ghe : Nat → Int32} {vus' : Int32} {ghe' : Nat → Int32} {n : Nat} (h : gM n mC mU mS mL fml fmb vme vpl vus vwr gpg gli gki gin gpl gle gso gva ghe) (hh : ∀ i, i < vus.toNatClampNeg → ghe i = ghe' i) (hu : vus.toNatClampNeg ≤ vus'.toNatClampNeg) : gM (n + 1) mC mU mS mL fml fmb vme vpl vus' vwr gpg gli gki gin gpl gle gso gva ghe' := by
  obtain ⟨C, c, P, h1, h2, h3, h4, h5, h6, h7, h8, h9, h10, h11, h12, h13, h14, h15, h16, h17, h18⟩ := h
  refine ⟨C, c, P, h1, h2, h3, h4, h5, h6, h7, h8, h9, h10, h11, h12, by omega, fun w1 q1 q2 b1 q3 q4 => vin_mono (h14 w1 q1 q2 b1 q3 q4) hu, h15, fun k hk j hj => ?_, h17, fun k hk j hj hjk => ?_⟩
  · show byA _ _ _ _ _ _ _ _ _ _ = _
    rw [← byA_he hh c h14]
    exact h16 k hk j hj
  · rw [← byA_he hh c h14]
    exact h18 k hk j hj hjk
theorem gT_he {tC : Int32} {tU : Int32} {tS : Nat → Int32} {tL : Nat → Int32} {ftl : Nat → Int32} {ftt : Nat → Int32} {fte : Nat → Int32} {vta : Int32} {vel : Int32} {vur : Int32} {vch : Int32} {gty : Nat → Int32} {gen : Nat → Int32} {gtl : Nat → Int32} {gck : Nat → Int32} {gci : Nat → Int32} {gcp : Nat → Int32} {gcl : Nat → Int32} {gcs : Nat → Int32} {gcv : Nat → Int32} {ghr : Nat → Int32} {vur' : Int32} {ghr' : Nat → Int32} {n : Nat} (h : gT n tC tU tS tL ftl ftt fte vta vel vur vch gty gen gtl gck gci gcp gcl gcs gcv ghr) (hh : ∀ i, i < vur.toNatClampNeg → ghr i = ghr' i) (hu : vur.toNatClampNeg ≤ vur'.toNatClampNeg) : gT (n + 1) tC tU tS tL ftl ftt fte vta vel vur' vch gty gen gtl gck gci gcp gcl gcs gcv ghr' := by
  obtain ⟨C, c, P, h1, h2, h3, h4, h5, h6, h7, h8, h9, h10, h11, h12, h13, h14, h15, h16, h17⟩ := h
  refine ⟨C, c, P, h1, h2, h3, h4, h5, h6, h7, h8, h9, h10, h11, h12, h13, by omega, fun w1 q1 q2 b1 q3 q4 => vin_mono (h15 w1 q1 q2 b1 q3 q4) hu, fun k hk j hj => ?_, fun k hk j hj hjk => ?_⟩
  · show _ = enA _ _ _ _ _ _ _ _ _ _
    rw [← enA_he hh c h15]
    exact h16 k hk j hj
  · rw [← enA_he hh c h15]
    exact h17 k hk j hj hjk
/-- bytes of a number behind all others of the segments, as the reference holds them -/
def heP (he : Nat → Int32) (U m : Nat) (nb : Int64) : Nat → Int32 := fun j => if U ≤ j ∧ j < U + m then ((nb >>> ((8 * nI (j - U)).toInt64 &&& 63)) &&& 255).toInt32 else he j
theorem heP_0 (he : Nat → Int32) (U : Nat) (nb : Int64) : heP he U 0 nb = he := funext fun j => if_neg (by omega)
theorem heP_s (he : Nat → Int32) (U i : Nat) (nb : Int64) : upd (heP he U i nb) (U + i) (((nb >>> ((8 * nI i).toInt64 &&& 63)) &&& 255).toInt32) = heP he U (i + 1) nb := by
  funext j
  by_cases q : j = U + i
  · subst q
    rw [upd_eq]
    unfold heP
    rw [if_pos (by omega), Nat.add_sub_cancel_left]
  · rw [upd_ne q]
    unfold heP
    by_cases z : U ≤ j ∧ j < U + i
    · rw [if_pos z, if_pos (by omega)]
    · rw [if_neg z, if_neg (by omega)]
theorem dt_loop {post : Int32 → (Int32 × Int32 × Int32 × (Nat → Int32) × (Nat → Int32) × (Nat → Int32)) → Prop} {nb : Int64} {vth : Int32} {vtp : Int32} {vme : Int32} {vta : Int32} {vpl : Int32} {vel : Int32} {vsg : Int32} {vrw : Int32} {vur : Int32} {vwr : Int32} {vch : Int32} {gst : Nat → Int32} {gmn : Nat → Int32} {gdr : Nat → Int32} {U m : Nat} (hU : U + m ≤ 600) (hv : vp_in (vsg - 1) 24) (he : Nat → Int32) (hp : post (vsg - 1) (vth, vsg, nI U + nI m, gst, upd gmn (vsg - 1).toNatClampNeg (gmn (vsg - 1).toNatClampNeg + nI m), heP he U m nb)) :
    ∀ r i, i + r = m → wp_Md_data_115 post nb (nI m) vth vtp vme vta vpl vel vsg (nI U) vrw vur vwr vch gst gmn gdr (r + 1) (nI i) (heP he U i nb)
  | 0, i, h => by
    have h : i = m := h
    subst h
    rw [wp_Md_data_115]
    exact ⟨fun _ x hx => ⟨hv, hv, fun a ha => by subst hx ha; exact hp⟩, fun q => absurd (nI_le (Nat.le_refl i) (by omega)) q⟩
  | r + 1, i, h => by
    rw [wp_Md_data_115]
    refine ⟨fun q => absurd q (nI_ge (by omega) (by omega)), fun _ => ⟨?_, fun x hx x2 hx2 => ?_⟩⟩
    · rw [nI_add]
      exact vp_in_nI (by omega) (by decide)
    · subst hx hx2
      rw [nI_add, nI_clamp (by omega), heP_s, nI_1]
      exact dt_loop hU hv he hp r (i + 1) (by omega)
theorem dt_loop0 {post : Int32 → (Int32 × Int32 × Int32 × (Nat → Int32) × (Nat → Int32) × (Nat → Int32)) → Prop} {nb : Int64} {vth : Int32} {vtp : Int32} {vme : Int32} {vta : Int32} {vpl : Int32} {vel : Int32} {vsg : Int32} {vrw : Int32} {vur : Int32} {vwr : Int32} {vch : Int32} {gst : Nat → Int32} {gmn : Nat → Int32} {gdr : Nat → Int32} {U m : Nat} (hU : U + m ≤ 600) (hv : vp_in (vsg - 1) 24) (he : Nat → Int32) (hp : post (vsg - 1) (vth, vsg, nI U + nI m, gst, upd gmn (vsg - 1).toNatClampNeg (gmn (vsg - 1).toNatClampNeg + nI m), heP he U m nb)) :
    ∃ n9, wp_Md_data_115 post nb (nI m) vth vtp vme vta vpl vel vsg (nI U) vrw vur vwr vch gst gmn gdr n9 0 he := by
  have h := dt_loop (vtp := vtp) (vme := vme) (vta := vta) (vpl := vpl) (vel := vel) (vrw := vrw) (vur := vur) (vwr := vwr) (vch := vch) (gdr := gdr) hU hv he hp m 0 (by omega)
  rw [heP_0] at h
  exact ⟨m + 1, h⟩
theorem he_ok {fsb ghe : Nat → Int32} (h : ∀ i, ghe i = fsb i &&& 255) {U m : Nat} (hm : m ≤ 8) (nb : Int64) : ∀ i, heP ghe U m nb i = put_b fsb U m nb i &&& 255 := by
  intro i
  unfold heP put_b
  by_cases z : U ≤ i ∧ i < U + m
  · rw [if_pos z, if_pos z]
    exact st_val nb (by omega)
  · rw [if_neg z, if_neg z]
    exact h i
