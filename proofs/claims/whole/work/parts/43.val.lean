/-! ===== bytes of numbers ===== -/
theorem and255 (n : Nat) : nI n &&& 255 = nI (n % 256) := by
  rw [pk_and (nI n) (m := 255) 8 (by decide)]
  show nI (n % 2 ^ 32 % 2 ^ 8) = _
  congr 1
  omega
theorem sh_b {n : Nat} (hn : n < 2 ^ 64) {k : Nat} (hk : k ≤ 56) : (lN n >>> ((nI k).toInt64 &&& 63)) &&& 255 = lN (n / 2 ^ k % 2 ^ 8) := by
  rw [wb_c k (by omega)]
  apply wb_inj
  rw [Int64.toBitVec_and, Int64.toBitVec_shiftRight, wb_tb, wb_tb, wb_tb, wb_sm k (by omega)]
  apply BitVec.eq_of_getLsbD_eq
  intro i hi
  have hm : ∀ i < 64, (255 : Int64).toBitVec.getLsbD i = decide (i < 8) := by decide
  rw [BitVec.getLsbD_and, BitVec.sshiftRight_eq', BitVec.getLsbD_sshiftRight, BitVec.toNat_ofNat, Nat.mod_eq_of_lt (show k < 2 ^ 64 by omega), hm i hi, BitVec.getLsbD_ofNat, BitVec.getLsbD_ofNat, Nat.testBit_mod_two_pow, Nat.testBit_div_two_pow]
  by_cases z : i < 8
  · simp [z, hi, show k + i < 64 by omega, Nat.add_comm]
  · simp [z]
theorem st_val (V : Int64) {i : Nat} (hi : i < 8) : ((V >>> ((8 * nI i).toInt64 &&& 63)) &&& 255).toInt32 = byt V i &&& 255 := by
  obtain ⟨n, hn, rfl⟩ := wb_of V
  unfold byt
  rw [bp_b, show (8 : Int32) * nI i = nI (8 * i) from pk_mul 8 i, wb_shr hn (by omega), lN_i, sh_b hn (by omega), lN_i, and255]
theorem fl_val (v : Int32) : (v.toInt64 &&& 255).toInt32 = v.toInt8.toInt32 &&& 255 := by rw [bp_b, ← bt_mask, lg_l2i_i2l]
theorem FB.fill {f : Nat → Int32} (h : FB f) (a b : Nat) {v : Int32} (hv : fits .byte (.int v) = true) : FB (ar_fill f a b v) := by
  intro i
  unfold ar_fill
  split
  · exact hv
  · exact h i
theorem FB.cpy {f g : Nat → Int32} (hf : FB f) (hg : FB g) (a b n : Nat) : FB (va_cpy f g a b n) := by
  intro i
  unfold va_cpy
  split
  · exact hf _
  · exact hg i
theorem FB.put {f : Nat → Int32} (h : FB f) (a n : Nat) (v : Int64) : FB (put_b f a n v) := by
  intro i
  unfold put_b
  split
  · exact pk_fb _
  · exact h i
/-- two unsigned numbers that lie within an end below 2^31 -/
theorem un_two {x y : Int32} {b : Nat} (h : un x + un y ≤ b) (hb : b < 2 ^ 31) : ∃ t m, un x = t ∧ un y = m ∧ x = nI t ∧ y = nI m ∧ t + m ≤ b := ⟨un x, un y, rfl, rfl, (nI_un x).symm, (nI_un y).symm, h⟩
theorem fit_le {x y : Int32} {L : Int64} {b : Nat} (hL : L = lN b) (hb : b < 2 ^ 31) : lg_cmp (u32 x + u32 y) L ≤ 0 ↔ un x + un y ≤ b := by
  have h1 := un_lt x
  have h2 := un_lt y
  rw [hL, u32_un, u32_un, lN_add, cmp_le (by omega) (by omega)]
theorem fit_gt {x y : Int32} {L : Int64} {b : Nat} (hL : L = lN b) (hb : b < 2 ^ 31) : 0 < lg_cmp (u32 x + u32 y) L ↔ b < un x + un y := by
  have h1 := un_lt x
  have h2 := un_lt y
  rw [hL, u32_un, u32_un, lN_add, cmp_gt (by omega) (by omega)]
theorem by_l {p : Nat} (h : p ≤ 48) : (nI p).toInt64 * 256 = lN (256 * p) := by
  rw [nI_l (by omega), show (256 : Int64) = lN 256 from rfl, lN_mul, Nat.mul_comm]
theorem u32_i (x : Int32) : (u32 x).toInt32 = x := by rw [u32_un, lN_i, nI_un]
