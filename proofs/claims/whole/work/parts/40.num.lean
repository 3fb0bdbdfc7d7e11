/-! ===== numbers (rows wb_, bp_b, pf_lI are of laws/BITS.to-paste) ===== -/
theorem wb_tb (n : Nat) : (lN n).toBitVec = BitVec.ofNat 64 n := rfl
theorem wb_inj {a b : Int64} (h : a.toBitVec = b.toBitVec) : a = b := Int64.toBitVec_inj.mp h
theorem wb_tn {n : Nat} (h : n < 2 ^ 64) : (lN n).toBitVec.toNat = n := by rw [wb_tb, BitVec.toNat_ofNat, Nat.mod_eq_of_lt h]
theorem wb_of (x : Int64) : ∃ n, n < 2 ^ 64 ∧ x = lN n := ⟨x.toBitVec.toNat, x.toBitVec.isLt, wb_inj (by rw [wb_tb]; simp)⟩
theorem wb_of32 (x : Int32) : ∃ n, n < 2 ^ 32 ∧ x = nI n := ⟨x.toBitVec.toNat, x.toBitVec.isLt, Int32.toBitVec_inj.mp (by show _ = BitVec.ofNat 32 _; simp)⟩
theorem wb_c : ∀ k, k < 64 → ((nI k).toInt64 &&& 63) = lN k := by decide +kernel
theorem wb_cu : ∀ k, k < 64 → ((nI k).toInt64.toUInt64 &&& Int64.toUInt64 63) = UInt64.ofNat k := by decide +kernel
theorem wb_sm : ∀ k, k < 64 → (BitVec.ofNat 64 k).smod 64 = BitVec.ofNat 64 k := by decide +kernel
theorem wb_pw {a b : Nat} (h : a ≤ b) : 2 ^ b = 2 ^ a * 2 ^ (b - a) := by rw [← Nat.pow_add]; congr 1; omega
theorem wb_lt2 {a b : Nat} (h : a < b) : 2 ^ a < 2 ^ b := Nat.pow_lt_pow_right (by decide) h
theorem wb_mod (n : Nat) : lN n = lN (n % 2 ^ 64) := wb_inj (by rw [wb_tb, wb_tb]; apply BitVec.eq_of_toNat_eq; rw [BitVec.toNat_ofNat, BitVec.toNat_ofNat, Nat.mod_mod])
theorem wb_shr {n k : Nat} (hn : n < 2 ^ 64) (hk : k < 64) : ((lN n).toUInt64 >>> ((nI k).toInt64.toUInt64 &&& Int64.toUInt64 63)).toInt64 = lN (n / 2 ^ k) := by
  rw [wb_cu k hk]
  apply wb_inj
  apply BitVec.eq_of_toNat_eq
  show ((lN n).toUInt64 >>> UInt64.ofNat k).toNat = (BitVec.ofNat 64 _).toNat
  have h1 : (UInt64.ofNat k).toNat = k := by
    show (BitVec.ofNat 64 k).toNat = k
    rw [BitVec.toNat_ofNat, Nat.mod_eq_of_lt (by omega)]
  have h2 : (lN n).toUInt64.toNat = n := wb_tn hn
  rw [UInt64.toNat_shiftRight, h1, h2, Nat.mod_eq_of_lt hk, Nat.shiftRight_eq_div_pow, BitVec.toNat_ofNat, Nat.mod_eq_of_lt (Nat.lt_of_le_of_lt (Nat.div_le_self _ _) hn)]
theorem wb_shl (n : Nat) {k : Nat} (hk : k < 64) : lN n <<< ((nI k).toInt64 &&& 63) = lN (n * 2 ^ k) := by
  rw [wb_c k hk]
  apply wb_inj
  rw [Int64.toBitVec_shiftLeft, wb_tb, wb_tb, wb_tb, wb_sm k hk]
  apply BitVec.eq_of_toNat_eq
  rw [BitVec.shiftLeft_eq', BitVec.toNat_shiftLeft, BitVec.toNat_ofNat, BitVec.toNat_ofNat, BitVec.toNat_ofNat, Nat.mod_eq_of_lt (show k < 2 ^ 64 by omega), Nat.shiftLeft_eq, Nat.mul_mod, Nat.mod_mod, ← Nat.mul_mod]
theorem wb_and {a b : Nat} (ha : a < 2 ^ 64) (hb : b < 2 ^ 64) : lN a &&& lN b = lN (a &&& b) := by
  apply wb_inj
  rw [Int64.toBitVec_and, wb_tb, wb_tb, wb_tb]
  apply BitVec.eq_of_toNat_eq
  rw [BitVec.toNat_and, BitVec.toNat_ofNat, BitVec.toNat_ofNat, BitVec.toNat_ofNat, Nat.mod_eq_of_lt ha, Nat.mod_eq_of_lt hb, Nat.mod_eq_of_lt (Nat.and_lt_two_pow _ hb)]
theorem wb_or {a b : Nat} (ha : a < 2 ^ 64) (hb : b < 2 ^ 64) : lN a ||| lN b = lN (a ||| b) := by
  apply wb_inj
  rw [Int64.toBitVec_or, wb_tb, wb_tb, wb_tb]
  apply BitVec.eq_of_toNat_eq
  rw [BitVec.toNat_or, BitVec.toNat_ofNat, BitVec.toNat_ofNat, BitVec.toNat_ofNat, Nat.mod_eq_of_lt ha, Nat.mod_eq_of_lt hb, Nat.mod_eq_of_lt (Nat.or_lt_two_pow ha hb)]
theorem wb_mask {n k : Nat} (hn : n < 2 ^ 64) (hk : k < 64) : lN n &&& lN (2 ^ k - 1) = lN (n % 2 ^ k) := by
  rw [wb_and hn (by have := wb_lt2 hk; omega), Nat.and_two_pow_sub_one_eq_mod]
theorem bp_b (x : Int32) : x.toInt8.toInt32 &&& 255 = x &&& 255 := by
  apply Int32.toBitVec_inj.mp
  rw [Int32.toBitVec_and, Int32.toBitVec_and, Int8.toBitVec_toInt32, Int32.toBitVec_toInt8]
  apply BitVec.eq_of_getLsbD_eq
  intro i hi
  rw [BitVec.getLsbD_and, BitVec.getLsbD_and]
  have hm : ∀ i < 32, 8 ≤ i → (255 : Int32).toBitVec.getLsbD i = false := by decide
  rcases Nat.lt_or_ge i 8 with z | z
  · rw [BitVec.getLsbD_signExtend, BitVec.getLsbD_signExtend, if_pos z, if_pos hi]
    simp only [z, hi, decide_true, Bool.true_and]
  · rw [hm i hi z]; simp
theorem pf_lI {a : Nat} (h : a < 2 ^ 63) : (lN a).toInt = (a : Int) := lg_ofNat_toInt h
/-- an int read without a sign -/
def un (k : Int32) : Nat := k.toBitVec.toNat
theorem un_lt (k : Int32) : un k < 2 ^ 32 := k.toBitVec.isLt
theorem nI_un (k : Int32) : nI (un k) = k := Int32.toBitVec_inj.mp (by show BitVec.ofNat 32 _ = _; simp [un])
theorem un_nI {n : Nat} (h : n < 2 ^ 32) : un (nI n) = n := pk_tn h
theorem u32_un (k : Int32) : u32 k = lN (un k) := by
  apply wb_inj
  show k.toInt64.toBitVec &&& 4294967295#64 = BitVec.ofNat 64 (un k)
  rw [Int32.toBitVec_toInt64]
  apply BitVec.eq_of_toNat_eq
  have h := un_lt k
  rw [BitVec.toNat_and, show (4294967295#64).toNat = 2 ^ 32 - 1 from by decide, Nat.and_two_pow_sub_one_eq_mod, BitVec.toNat_ofNat, Nat.mod_eq_of_lt (show un k < 2 ^ 64 by omega), BitVec.toNat_signExtend]
  have e : (BitVec.setWidth 64 k.toBitVec).toNat = un k := by
    rw [BitVec.toNat_setWidth, Nat.mod_eq_of_lt (show k.toBitVec.toNat < 2 ^ 64 from Nat.lt_trans h (by decide))]
    rfl
  rw [e]
  split <;> omega
theorem cmp_le {a b : Nat} (ha : a < 2 ^ 63) (hb : b < 2 ^ 63) : lg_cmp (lN a) (lN b) ≤ 0 ↔ a ≤ b := by
  rw [lg_cmp_le, Int64.le_iff_toInt_le, pf_lI ha, pf_lI hb]
  omega
theorem cmp_gt {a b : Nat} (ha : a < 2 ^ 63) (hb : b < 2 ^ 63) : 0 < lg_cmp (lN a) (lN b) ↔ b < a := by
  rw [lg_cmp_gt, Int64.lt_iff_toInt_lt, pf_lI ha, pf_lI hb]
  omega
theorem has_yes {C j : Nat} (h : j < C) (hC : C < 2 ^ 31) : ly_has (nI C) (nI j) = 1 := by
  unfold ly_has
  rw [if_neg (nI_pos (by omega)), if_neg (nI_ge h hC)]
theorem has_cases {C : Nat} (hC : C < 2 ^ 31) (k : Int32) : (ly_has (nI C) k = 0 ∧ (k < 0 ∨ (¬ k < 0 ∧ nI C ≤ k))) ∨ ∃ j, j < C ∧ k = nI j := by
  rcases pk_ix k hC with h | h | h
  · exact Or.inl ⟨by unfold ly_has; rw [if_pos h], Or.inl h⟩
  · by_cases h0 : k < 0
    · exact Or.inl ⟨by unfold ly_has; rw [if_pos h0], Or.inl h0⟩
    · exact Or.inl ⟨by unfold ly_has; rw [if_neg h0, if_pos h], Or.inr ⟨h0, h⟩⟩
  · exact Or.inr h
theorem full_no {C n : Nat} (h : C < n) (hn : n < 2 ^ 31) : ly_full (nI C) n = 0 := by
  unfold ly_full
  rw [if_pos (nI_lt h hn)]
theorem full_yes {C n : Nat} (h : n ≤ C) (hn : C < 2 ^ 31) : ly_full (nI C) n = 1 := by
  unfold ly_full
  rw [if_neg (nI_nlt h hn)]
theorem ln_yes {C j : Nat} (h : j < C) (hC : C < 2 ^ 31) (f : Nat → Int32) : ly_ln (nI C) (nI j) f = f j := by
  unfold ly_ln
  rw [has_yes h hC, if_neg (by decide), nI_clamp (by omega)]
theorem st_yes {C j : Nat} (h : j < C) (hC : C < 2 ^ 31) (f : Nat → Int32) : ly_st (nI C) (nI j) f = f j := by
  unfold ly_st
  rw [has_yes h hC, if_neg (by decide), nI_clamp (by omega)]
theorem en_yes {C j : Nat} (h : j < C) (hC : C < 2 ^ 31) (us : Int32) (f g : Nat → Int32) : ly_en (nI C) us (nI j) f g = f j + g j := by
  unfold ly_en
  rw [has_yes h hC, if_neg (by decide), nI_clamp (by omega)]
theorem z10 : ((1 : Int32) = 0) = False := by simp
theorem z20 : ((2 : Int32) = 0) = False := by simp
theorem z12 : ((1 : Int32) = 2) = False := by simp
theorem z21 : ((2 : Int32) = 1) = False := by simp
theorem z01 : ((0 : Int32) = 1) = False := by simp
theorem z02 : ((0 : Int32) = 2) = False := by simp
theorem nb0 : (narrow .boolean (.int 0) = .int 0) = True := eq_true (by decide)
theorem nb1 : (narrow .boolean (.int 1) = .int 1) = True := eq_true (by decide)
theorem eiu : (E_ill = E_uns) = False := eq_false (by decide)
theorem eui : (E_uns = E_ill) = False := eq_false (by decide)
theorem ps10 : pos1 0 = 0 := by decide
theorem ps14 : pos1 4 = 1 := by decide
theorem ps15 : pos1 5 = 1 := by decide
theorem lt04 : ((0 : Int32) < 4) = True := eq_true (by decide)
theorem lt05 : ((0 : Int32) < 5) = True := eq_true (by decide)
theorem lt00 : ((0 : Int32) < 0) = False := eq_false (by decide)
theorem bt_mask (x : Int32) : (x &&& 255).toInt64 = x.toInt64 &&& 255 := by
  obtain ⟨n, hn, rfl⟩ := wb_of32 x
  apply wb_inj
  rw [Int32.toBitVec_toInt64, Int64.toBitVec_and, Int32.toBitVec_toInt64, Int32.toBitVec_and]
  apply BitVec.eq_of_getLsbD_eq
  intro i hi
  have hm : ∀ i < 64, (255 : Int64).toBitVec.getLsbD i = decide (i < 8) := by decide
  have hm2 : ∀ i < 32, (255 : Int32).toBitVec.getLsbD i = decide (i < 8) := by decide
  have hms : ((nI n).toBitVec &&& (255 : Int32).toBitVec).msb = false := by
    rw [BitVec.msb_and, show (255 : Int32).toBitVec.msb = false from by decide, Bool.and_false]
  rw [BitVec.getLsbD_and, BitVec.getLsbD_signExtend, BitVec.getLsbD_signExtend, hm i hi, hms]
  by_cases z : i < 32
  · rw [if_pos z, if_pos z, BitVec.getLsbD_and, hm2 i z]
    simp [hi]
  · rw [if_neg z, if_neg z]
    simp [show ¬ i < 8 by omega]
