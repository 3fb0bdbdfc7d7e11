/-! ===== rows of stretches, one behind the other; what the reference's log says ===== -/
def psum (L : Nat → Nat) : Nat → Nat
  | 0 => 0
  | k + 1 => psum L k + L k
def updN (L : Nat → Nat) (k v : Nat) : Nat → Nat := fun j => if j = k then v else L j
theorem updN_eq (L : Nat → Nat) (k v : Nat) : updN L k v k = v := if_pos rfl
theorem updN_ne {L : Nat → Nat} {k v j : Nat} (h : j ≠ k) : updN L k v j = L j := if_neg h
theorem upd_eq (f : Nat → Int32) (k : Nat) (v : Int32) : upd f k v k = v := if_pos rfl
theorem upd_ne {f : Nat → Int32} {k j : Nat} {v : Int32} (h : j ≠ k) : upd f k v j = f j := if_neg h
theorem psum_le {L : Nat → Nat} {k : Nat} : ∀ {C : Nat}, k < C → psum L k + L k ≤ psum L C
  | 0, h => absurd h (Nat.not_lt_zero _)
  | C + 1, h => by
    rcases Nat.lt_or_eq_of_le (Nat.le_of_lt_succ h) with h1 | h1
    · have := psum_le (L := L) h1
      simp only [psum]
      omega
    · subst h1
      exact Nat.le_refl _
theorem psum_mono {L : Nat → Nat} {k C : Nat} (h : k ≤ C) : psum L k ≤ psum L C := by
  rcases Nat.lt_or_eq_of_le h with h1 | h1
  · have := psum_le (L := L) h1
    omega
  · subst h1
    exact Nat.le_refl _
theorem psum_mul (P : Nat → Nat) : ∀ C, psum (fun k => 256 * P k) C = 256 * psum P C
  | 0 => rfl
  | C + 1 => by simp only [psum, psum_mul P C]; omega
theorem psum_upd {L : Nat → Nat} {k0 v : Nat} : ∀ {C : Nat}, C ≤ k0 → psum (updN L k0 v) C = psum L C
  | 0, _ => rfl
  | C + 1, h => by simp only [psum]; rw [psum_upd (by omega), updN_ne (by omega)]
theorem psum_add {L : Nat → Nat} {k0 d : Nat} : ∀ {C : Nat}, k0 < C → psum (updN L k0 (L k0 + d)) C = psum L C + d
  | 0, h => absurd h (Nat.not_lt_zero _)
  | C + 1, h => by
    simp only [psum]
    rcases Nat.lt_or_eq_of_le (Nat.le_of_lt_succ h) with h1 | h1
    · rw [psum_add h1, updN_ne (by omega)]
      omega
    · subst h1
      rw [psum_upd (Nat.le_refl _), updN_eq]
      omega
def rowI (C : Nat) (L : Nat → Nat) (R : Int32 → Int32 → Prop) (f : Nat → Int32) (B : Nat → Nat → Int32) : Prop := ∀ k, k < C → ∀ j, j < L k → R (f (psum L k + j)) (B k j)
theorem row_write {C : Nat} {L : Nat → Nat} {R : Int32 → Int32 → Prop} {f f' : Nat → Int32} {B B' : Nat → Nat → Int32} {k0 t n : Nat} (h : rowI C L R f B) (ht : t + n ≤ L k0)
    (hf : ∀ i, ¬ (psum L k0 + t ≤ i ∧ i < psum L k0 + t + n) → f' i = f i)
    (hB : ∀ k j, k < C → j < L k → ¬ (k0 = k ∧ t ≤ j ∧ j < t + n) → B' k j = B k j)
    (hR : ∀ i, i < n → R (f' (psum L k0 + t + i)) (B' k0 (t + i))) : rowI C L R f' B' := by
  intro k hk j hj
  by_cases hc : k0 = k ∧ t ≤ j ∧ j < t + n
  · obtain ⟨rfl, h1, h2⟩ := hc
    have := hR (j - t) (by omega)
    rw [show psum L k0 + t + (j - t) = psum L k0 + j by omega, show t + (j - t) = j by omega] at this
    exact this
  · rw [hB k j hk hj hc, hf]
    · exact h k hk j hj
    · intro hi
      rcases Nat.lt_trichotomy k k0 with q | q | q
      · have := psum_le (L := L) q
        omega
      · subst q
        exact hc ⟨rfl, by omega, by omega⟩
      · have := psum_le (L := L) q
        omega
theorem row_grow {C : Nat} {L : Nat → Nat} {R : Int32 → Int32 → Prop} {f f' : Nat → Int32} {B B' : Nat → Nat → Int32} {k0 d : Nat} (h : rowI C L R f B) (hk : k0 < C)
    (hf1 : ∀ i, i < psum L k0 + L k0 → f' i = f i) (hf3 : ∀ i, psum L k0 + L k0 ≤ i → i < psum L C → f' (i + d) = f i)
    (hB : ∀ k j, k < C → j < L k → B' k j = B k j) (hR : ∀ j, L k0 ≤ j → j < L k0 + d → R (f' (psum L k0 + j)) (B' k0 j)) : rowI C (updN L k0 (L k0 + d)) R f' B' := by
  intro k hk1 j hj
  rcases Nat.lt_trichotomy k k0 with q | q | q
  · rw [updN_ne (by omega)] at hj
    rw [psum_upd (by omega), hB k j hk1 hj, hf1]
    · exact h k hk1 j hj
    · have := psum_le (L := L) q
      omega
  · subst q
    rw [updN_eq] at hj
    rw [psum_upd (Nat.le_refl _)]
    by_cases q : j < L k
    · rw [hB k j hk1 q, hf1 _ (by omega)]
      exact h k hk1 j q
    · exact hR j (by omega) hj
  · rw [updN_ne (by omega)] at hj
    have h1 := psum_le (L := L) q
    have h2 := psum_le (L := L) hk1
    rw [psum_add q, hB k j hk1 hj, show psum L k + d + j = psum L k + j + d by omega, hf3 _ (by omega) (by omega)]
    exact h k hk1 j hj
theorem row_app {C : Nat} {L : Nat → Nat} {R : Int32 → Int32 → Prop} {f f' : Nat → Int32} {B B' : Nat → Nat → Int32} {n : Nat} (h : rowI C L R f B) (hf : ∀ i, i < psum L C → f' i = f i)
    (hB : ∀ k j, k < C → j < L k → B' k j = B k j) (hR : ∀ j, j < n → R (f' (psum L C + j)) (B' C j)) : rowI (C + 1) (updN L C n) R f' B' := by
  intro k hk j hj
  rcases Nat.lt_or_eq_of_le (Nat.le_of_lt_succ hk) with q | q
  · rw [updN_ne (by omega)] at hj
    have := psum_le (L := L) q
    rw [psum_upd (by omega), hB k j q hj, hf _ (by omega)]
    exact h k q j hj
  · subst q
    rw [updN_eq] at hj
    rw [psum_upd (Nat.le_refl _)]
    exact hR j hj
/-- the log's first c rows decide what it says -/
theorem byA_cong {ki ki' inn inn' pl pl' le le' so so' : Nat → Int32} {va va' : Nat → Int64} {he : Nat → Int32} {m : Int32} :
    ∀ (c : Nat), (∀ w, w < c → ki w = ki' w ∧ inn w = inn' w ∧ pl w = pl' w ∧ le w = le' w ∧ so w = so' w ∧ va w = va' w) → ∀ a, byA ki inn pl le so va he m c a = byA ki' inn' pl' le' so' va' he m c a
  | 0, _, a => rfl
  | c + 1, h, a => by
    obtain ⟨h1, h2, h3, h4, h5, h6⟩ := h c (Nat.lt_succ_self c)
    simp only [byA]
    rw [h1, h2, h3, h4, h5, h6, byA_cong c (fun w hw => h w (by omega)), byA_cong c (fun w hw => h w (by omega))]
theorem byA_he {ki inn pl le so : Nat → Int32} {va : Nat → Int64} {he he' : Nat → Int32} {m : Int32} {N : Nat} (hh : ∀ i, i < N → he i = he' i) :
    ∀ (c : Nat), wr_ok ki le so c N → ∀ a, byA ki inn pl le so va he m c a = byA ki inn pl le so va he' m c a
  | 0, _, a => rfl
  | c + 1, h, a => by
    have ih := byA_he (inn := inn) (pl := pl) (va := va) (m := m) hh c (fun w hw => h w (by omega))
    simp only [byA]
    rw [ih, ih]
    by_cases hc : inn c = m ∧ ¬ (a - pl c) < 0 ∧ ¬ le c ≤ a - pl c
    · rw [if_pos hc, if_pos hc]
      by_cases h4 : ki c = 4
      · have := h c (Nat.lt_succ_self c) h4 (a - pl c) hc.2.1 hc.2.2
        rw [hh _ (Nat.not_le.mp fun q => this (Or.inr q))]
      · rw [if_neg h4, if_neg h4]
    · rw [if_neg hc, if_neg hc]
theorem byA_new (ki inn pl le so : Nat → Int32) (va : Nat → Int64) (he : Nat → Int32) (m : Int32) (c : Nat) (K M PL LE SO : Int32) (V : Int64) (a : Int32) :
    byA (upd ki c K) (upd inn c M) (upd pl c PL) (upd le c LE) (upd so c SO) (vp_updL va c V) he m (c + 1) a = if M = m ∧ ¬ (a - PL) < 0 ∧ ¬ LE ≤ a - PL then (if K = 1 then ((V >>> ((8 * (a - PL)).toInt64 &&& 63)) &&& 255).toInt32 else if K = 2 then (V &&& 255).toInt32 else if K = 4 then he (SO + (a - PL)).toNatClampNeg else byA ki inn pl le so va he m c (SO + (a - PL))) else byA ki inn pl le so va he m c a := by
  have e : ∀ b, byA (upd ki c K) (upd inn c M) (upd pl c PL) (upd le c LE) (upd so c SO) (vp_updL va c V) he m c b = byA ki inn pl le so va he m c b := byA_cong c (fun w hw => ⟨upd_ne (by omega), upd_ne (by omega), upd_ne (by omega), upd_ne (by omega), upd_ne (by omega), if_neg (by omega)⟩)
  simp only [byA]
  rw [e, e, upd_eq, upd_eq, upd_eq, upd_eq, upd_eq, show vp_updL va c V c = V from if_pos rfl]
theorem enA_cong {ki ki' inn inn' pl pl' le le' so so' va va' : Nat → Int32} {he : Nat → Int32} :
    ∀ (c : Nat), (∀ w, w < c → ki w = ki' w ∧ inn w = inn' w ∧ pl w = pl' w ∧ le w = le' w ∧ so w = so' w ∧ va w = va' w) → ∀ t a, enA ki inn pl le so va he c t a = enA ki' inn' pl' le' so' va' he c t a
  | 0, _, t, a => rfl
  | c + 1, h, t, a => by
    obtain ⟨h1, h2, h3, h4, h5, h6⟩ := h c (Nat.lt_succ_self c)
    simp only [enA]
    rw [h1, h2, h3, h4, h5, h6, enA_cong c (fun w hw => h w (by omega)), enA_cong c (fun w hw => h w (by omega))]
theorem enA_he {ki inn pl le so va : Nat → Int32} {he he' : Nat → Int32} {N : Nat} (hh : ∀ i, i < N → he i = he' i) :
    ∀ (c : Nat), wr_ok ki le so c N → ∀ t a, enA ki inn pl le so va he c t a = enA ki inn pl le so va he' c t a
  | 0, _, t, a => rfl
  | c + 1, h, t, a => by
    have ih := enA_he (inn := inn) (pl := pl) (va := va) hh c (fun w hw => h w (by omega))
    simp only [enA]
    rw [ih, ih]
    by_cases hc : inn c = t ∧ ¬ (a - pl c) < 0 ∧ ¬ le c ≤ a - pl c
    · rw [if_pos hc, if_pos hc]
      by_cases h4 : ki c = 4
      · have := h c (Nat.lt_succ_self c) h4 (a - pl c) hc.2.1 hc.2.2
        rw [hh _ (Nat.not_le.mp fun q => this (Or.inr q))]
      · rw [if_neg h4, if_neg h4]
    · rw [if_neg hc, if_neg hc]
theorem enA_new (ki inn pl le so va : Nat → Int32) (he : Nat → Int32) (c : Nat) (K M PL LE SO V : Int32) (t a : Int32) :
    enA (upd ki c K) (upd inn c M) (upd pl c PL) (upd le c LE) (upd so c SO) (upd va c V) he (c + 1) t a = if M = t ∧ ¬ (a - PL) < 0 ∧ ¬ LE ≤ a - PL then (if K = 2 then V else if K = 4 then he (SO + (a - PL)).toNatClampNeg else enA ki inn pl le so va he c V (SO + (a - PL))) else enA ki inn pl le so va he c t a := by
  have e : ∀ b d, enA (upd ki c K) (upd inn c M) (upd pl c PL) (upd le c LE) (upd so c SO) (upd va c V) he c b d = enA ki inn pl le so va he c b d := enA_cong c (fun w hw => ⟨upd_ne (by omega), upd_ne (by omega), upd_ne (by omega), upd_ne (by omega), upd_ne (by omega), upd_ne (by omega)⟩)
  simp only [enA]
  rw [e, e, upd_eq, upd_eq, upd_eq, upd_eq, upd_eq, upd_eq]
theorem log_in {k0 k j t n : Nat} (hk0 : k0 < 2 ^ 30) (hk : k < 2 ^ 30) (hj : j < 2 ^ 30) (ht : t < 2 ^ 30) (hn : n < 2 ^ 30) : (nI k0 = nI k ∧ ¬ (nI j - nI t) < 0 ∧ ¬ nI n ≤ nI j - nI t) ↔ (k0 = k ∧ t ≤ j ∧ j < t + n) := by
  rw [nI_eq (by omega) (by omega)]
  by_cases q : t ≤ j
  · rw [pk_sub q, nI_leI (by omega) (by omega)]
    have := nI_pos (n := j - t) (by omega)
    constructor
    · rintro ⟨h1, h2, h3⟩
      exact ⟨h1, q, by omega⟩
    · rintro ⟨h1, h2, h3⟩
      exact ⟨h1, this, by omega⟩
  · have := pk_sneg (a := j) (b := t) (by omega) (by omega)
    constructor
    · rintro ⟨h1, h2, h3⟩
      exact absurd this h2
    · rintro ⟨h1, h2, h3⟩
      exact absurd h2 q
