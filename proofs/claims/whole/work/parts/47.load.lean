/-! ===== load: numbers out of bytes ===== -/
theorem sx_n (x : BitVec 64) (s : Nat) (hs : 0 < s) (hs2 : s < 64) (i : Nat) (hi : i < 64) : ((x <<< s).sshiftRight s).getLsbD i = if i < 64 - s then x.getLsbD i else x.getLsbD (63 - s) := by
  rw [BitVec.getLsbD_sshiftRight, BitVec.msb_eq_getLsbD_last, BitVec.getLsbD_shiftLeft, BitVec.getLsbD_shiftLeft]
  by_cases z : i < 64 - s
  · simp [z, hi, show s + i < 64 by omega, show ¬ s + i < s by omega]
  · simp [z, hi, show ¬ s + i < 64 by omega, show ¬ 63 < s by omega]
theorem sx_e (x : BitVec 64) (w i : Nat) (hw : 0 < w) (hi : i < 64) : ((x.signExtend w).signExtend 64).getLsbD i = if i < w then (x.signExtend w).getLsbD i else (x.signExtend w).getLsbD (w - 1) := by
  rw [BitVec.getLsbD_signExtend, BitVec.msb_eq_getLsbD_last]
  by_cases z : i < w
  · simp [z, hi]
  · simp [z, hi]
theorem sx_l (v : Int64) {s : Nat} (hs : s < 64) : ((v <<< ((nI s).toInt64 &&& 63)) >>> ((nI s).toInt64 &&& 63)).toBitVec = (v.toBitVec <<< s).sshiftRight s := by
  rw [wb_c s hs, Int64.toBitVec_shiftRight, Int64.toBitVec_shiftLeft, wb_tb, wb_sm s hs, BitVec.sshiftRight_eq', BitVec.shiftLeft_eq', BitVec.toNat_ofNat, Nat.mod_eq_of_lt (show s < 2 ^ 64 by omega)]
theorem sx32 (v : Int64) : (v <<< ((nI 32).toInt64 &&& 63)) >>> ((nI 32).toInt64 &&& 63) = v.toInt32.toInt64 := by
  apply wb_inj
  rw [sx_l v (by decide), Int32.toBitVec_toInt64, Int64.toBitVec_toInt32]
  apply BitVec.eq_of_getLsbD_eq
  intro i hi
  rw [sx_n _ _ (by decide) (by decide) _ hi, BitVec.getLsbD_signExtend, BitVec.msb_eq_getLsbD_last, BitVec.getLsbD_signExtend, BitVec.getLsbD_signExtend]
  by_cases z : i < 32
  · simp [z, hi]
  · simp [z, hi]
theorem sx8 (v : Int64) : (v <<< ((nI 56).toInt64 &&& 63)) >>> ((nI 56).toInt64 &&& 63) = v.toInt32.toInt8.toInt32.toInt64 := by
  apply wb_inj
  rw [sx_l v (by decide), Int32.toBitVec_toInt64, Int8.toBitVec_toInt32, Int32.toBitVec_toInt8, Int64.toBitVec_toInt32]
  apply BitVec.eq_of_getLsbD_eq
  intro i hi
  rw [sx_n _ _ (by decide) (by decide) _ hi]
  simp only [BitVec.getLsbD_signExtend, BitVec.msb_eq_getLsbD_last]
  by_cases z : i < 8
  · simp [z, hi, show i < 32 by omega]
  · by_cases z2 : i < 32
    · simp [z, z2, hi]
    · simp [z, z2, hi]
theorem sx16 (v : Int64) : (v <<< ((nI 48).toInt64 &&& 63)) >>> ((nI 48).toInt64 &&& 63) = v.toInt32.toInt16.toInt32.toInt64 := by
  apply wb_inj
  rw [sx_l v (by decide), Int32.toBitVec_toInt64, Int16.toBitVec_toInt32, Int32.toBitVec_toInt16, Int64.toBitVec_toInt32]
  apply BitVec.eq_of_getLsbD_eq
  intro i hi
  rw [sx_n _ _ (by decide) (by decide) _ hi]
  simp only [BitVec.getLsbD_signExtend, BitVec.msb_eq_getLsbD_last]
  by_cases z : i < 16
  · simp [z, hi, show i < 32 by omega]
  · by_cases z2 : i < 32
    · simp [z, z2, hi]
    · simp [z, z2, hi]
/-- the number of i bytes, the lowest first -/
def NB (y : Nat → Nat) : Nat → Nat
  | 0 => 0
  | i + 1 => NB y i + y i * 2 ^ (8 * i)
theorem NB_lt {y : Nat → Nat} (hy : ∀ i, y i < 256) : ∀ i, NB y i < 2 ^ (8 * i)
  | 0 => by simp [NB]
  | i + 1 => by
    have h := NB_lt hy i
    have h1 := hy i
    have e : 2 ^ (8 * (i + 1)) = 256 * 2 ^ (8 * i) := by rw [Nat.mul_succ, Nat.pow_add, Nat.mul_comm]
    have h2 : (y i + 1) * 2 ^ (8 * i) ≤ 256 * 2 ^ (8 * i) := Nat.mul_le_mul_right _ h1
    rw [Nat.add_mul, Nat.one_mul] at h2
    simp only [NB]
    omega
theorem NB_cons (f : Nat → Nat) : ∀ n, NB f (n + 1) = f 0 + 256 * NB (fun t => f (t + 1)) n
  | 0 => by simp [NB]
  | n + 1 => by
    have ih := NB_cons f n
    have e : 2 ^ (8 * (n + 1)) = 256 * 2 ^ (8 * n) := by rw [Nat.mul_succ, Nat.pow_add, Nat.mul_comm]
    have e2 : f (n + 1) * 2 ^ (8 * (n + 1)) = 256 * (f (n + 1) * 2 ^ (8 * n)) := by rw [e, Nat.mul_left_comm]
    rw [show NB f (n + 1 + 1) = NB f (n + 1) + f (n + 1) * 2 ^ (8 * (n + 1)) from rfl, ih, e2, show NB (fun t => f (t + 1)) (n + 1) = NB (fun t => f (t + 1)) n + f (n + 1) * 2 ^ (8 * n) from rfl]
    omega
theorem or_add {a b k : Nat} (ha : a < 2 ^ k) (h : a + b * 2 ^ k < 2 ^ 64) : lN a ||| lN (b * 2 ^ k) = lN (a + b * 2 ^ k) := by
  rw [wb_or (by omega) (by omega)]
  congr 1
  have := Nat.shiftLeft_add_eq_or_of_lt ha b
  rw [Nat.shiftLeft_eq] at this
  rw [Nat.or_comm, ← this, Nat.add_comm]
theorem or_add' {a b k : Nat} (ha : a < 2 ^ k) (h : b * 2 ^ k + a < 2 ^ 64) : lN (b * 2 ^ k) ||| lN a = lN (b * 2 ^ k + a) := by
  rw [wb_or (by omega) (by omega)]
  congr 1
  have := Nat.shiftLeft_add_eq_or_of_lt ha b
  rw [Nat.shiftLeft_eq] at this
  rw [← this]
theorem NB_step {y : Nat → Nat} (hy : ∀ i, y i < 256) {i : Nat} (hi : i < 8) : lN (NB y i) ||| (lN (y i) <<< ((8 * nI i).toInt64 &&& 63)) = lN (NB y (i + 1)) := by
  have h := NB_lt hy (i + 1)
  have h2 : 2 ^ (8 * (i + 1)) ≤ 2 ^ 64 := Nat.pow_le_pow_right (by decide) (by omega)
  rw [show (8 : Int32) * nI i = nI (8 * i) from pk_mul 8 i, wb_shl _ (by omega), or_add (NB_lt hy i) (Nat.lt_of_lt_of_le h h2)]
  rfl
theorem NB_stepm {y : Nat → Nat} (hy : ∀ i, y i < 256) {i w : Nat} (hi : i < w) (hw : w ≤ 8) : (lN (NB (fun t => y (t + (i + 1))) (w - (i + 1))) <<< ((8 : Int32).toInt64 &&& 63)) ||| lN (y i) = lN (NB (fun t => y (t + i)) (w - i)) := by
  have h := NB_lt (y := fun t => y (t + (i + 1))) (fun t => hy _) (w - (i + 1))
  have h2 : 2 ^ (8 * (w - (i + 1))) ≤ 2 ^ 56 := Nat.pow_le_pow_right (by decide) (by omega)
  have h3 := hy i
  have e := NB_cons (fun t => y (t + i)) (w - (i + 1))
  rw [show w - (i + 1) + 1 = w - i by omega, show (fun t => (fun t => y (t + i)) (t + 1)) = (fun t => y (t + (i + 1))) from funext fun t => congrArg y (by omega), Nat.zero_add] at e
  rw [show (8 : Int32) = nI 8 from rfl, wb_shl _ (by decide), or_add' h3 (by omega), e]
  congr 1
  omega
theorem ld_cls {post : Int64 → Int32 → Prop} {postx : String → Int32 → Prop} {op trp mC mU : Int32} {mS mL mD fmb : Nat → Int32} {w A : Nat} (hA : A + w ≤ 12288) (hw : w ≤ 8) (y : Nat → Nat) (hy : ∀ i, y i < 256) (hyf : ∀ i, i < w → (fmb (A + i)).toInt64 &&& 255 = lN (y i)) (hp : post (ext_of op (lN (NB y w))) trp) :
    ∀ r i, i + r = w → wp_Pm_load_73 post postx op (nI w) (nI A) trp mC mU mS mL mD fmb (r + 1) (lN (NB y i)) (nI i)
  | 0, i, h => by
    have h : i = w := h
    subst h
    rw [wp_Pm_load_73]
    exact ⟨fun _ => hp, fun q => absurd (nI_le (Nat.le_refl i) (by omega)) q⟩
  | r + 1, i, h => by
    rw [wp_Pm_load_73]
    refine ⟨fun q => absurd q (nI_ge (by omega) (by omega)), fun _ => ⟨?_, fun x hx x2 hx2 => ?_⟩⟩
    · rw [nI_add]
      exact vp_in_nI (by omega) (by decide)
    · subst hx hx2
      rw [nI_add, nI_clamp (by omega), hyf i (by omega), NB_step hy (by omega), nI_1]
      exact ld_cls hA hw y hy hyf hp r (i + 1) (by omega)
theorem ld_md {post : Int64 → (Int32 × Int32) → Prop} {k op : Int32} {fr : Int64} {vth : Int32} {vtp : Int32} {vme : Int32} {vta : Int32} {vpl : Int32} {vel : Int32} {vsg : Int32} {vus : Int32} {vrw : Int32} {vur : Int32} {vch : Int32} {gpg : Nat → Int32} {gki : Nat → Int32} {gin : Nat → Int32} {gpl : Nat → Int32} {gle : Nat → Int32} {gso : Nat → Int32} {gva : Nat → Int64} {ghe : Nat → Int32} {w c : Nat} (hw : w ≤ 8) (y : Nat → Nat) (hy : ∀ i, y i < 256) (hc : c ≤ 520) (hwr : wr_ok gki gle gso c 600) (hyb : ∀ i, i < w → (byA gki gin gpl gle gso gva ghe k c (fr.toInt32 + nI i)).toInt64 = lN (y i))
    (hend : wp_Md_load_79 post k op (nI w) fr vth vtp vme vta vpl vel vsg vus vrw vur (nI c) vch gpg gki gin gpl gle gso gva ghe 1 (lN (NB y w)) (nI 0 - 1)) :
    ∀ i, i ≤ w → wp_Md_load_79 post k op (nI w) fr vth vtp vme vta vpl vel vsg vus vrw vur (nI c) vch gpg gki gin gpl gle gso gva ghe (i + 1) (lN (NB (fun t => y (t + i)) (w - i))) (nI i - 1)
  | 0, _ => hend
  | i + 1, h => by
    rw [wp_Md_load_79, show nI (i + 1) - 1 = nI i from nI_pred i]
    refine ⟨fun q => absurd q (nI_pos (by omega)), fun _ => ⟨nI_pos (by omega), ?_, ?_, fun x hx x2 hx2 => ?_⟩⟩
    · rw [nI_clamp (by omega)]
      exact hc
    · rw [nI_clamp (by omega)]
      exact hwr
    · subst hx hx2
      rw [nI_clamp (by omega), hyb i (by omega), NB_stepm hy (by omega) hw, ← Int32.sub_eq_add_neg]
      exact ld_md hw y hy hc hwr hyb hend i (by omega)
theorem ld_e40 {post : Int64 → (Int32 × Int32) → Prop} {k : Int32} {fr acc : Int64} {vth : Int32} {vtp : Int32} {vme : Int32} {vta : Int32} {vpl : Int32} {vel : Int32} {vsg : Int32} {vus : Int32} {vrw : Int32} {vur : Int32} {vwr : Int32} {vch : Int32} {gpg : Nat → Int32} {gki : Nat → Int32} {gin : Nat → Int32} {gpl : Nat → Int32} {gle : Nat → Int32} {gso : Nat → Int32} {gva : Nat → Int64} {ghe : Nat → Int32} (hp : post (ext_of 40 acc) (vth, vtp)) : wp_Md_load_79 post k 40 (nI 4) fr vth vtp vme vta vpl vel vsg vus vrw vur vwr vch gpg gki gin gpl gle gso gva ghe 1 acc (nI 0 - 1) := by
  have t0 : (((40 : Int32) ≤ 43) = True) := eq_true (by decide)
  have t1 : (((40 : Int32) = 44) = False) := eq_false (by decide)
  have t2 : (((40 : Int32) = 46) = False) := eq_false (by decide)
  have t3 : ((nI 0 - 1 < 0) = True) := eq_true (by decide)
  have t4 : (((40 : Int32) - 40 / 2 * 2 = 0) = True) := eq_true (by decide)
  have t9 : (64 : Int32) - 8 * nI 4 = nI 32 := by decide
  simp only [wp_Md_load_79, t0, t1, t2, t3, t4, t9, not_true_eq_false, not_false_eq_true, true_implies, false_implies, implies_true, and_true, true_and, forall_eq, if_true, if_false, true_or, or_true, eui, eiu, nb0, nb1, z10, z20, z01, z02, z12, z21, lt00, lt04, lt05, ps10, ps14, ps15]
  unfold ext_of at hp
  rw [if_neg (by decide), if_neg (by decide), if_neg (by decide), if_neg (by decide), if_neg (by decide)] at hp
  exact hp
theorem ld_e41 {post : Int64 → (Int32 × Int32) → Prop} {k : Int32} {fr acc : Int64} {vth : Int32} {vtp : Int32} {vme : Int32} {vta : Int32} {vpl : Int32} {vel : Int32} {vsg : Int32} {vus : Int32} {vrw : Int32} {vur : Int32} {vwr : Int32} {vch : Int32} {gpg : Nat → Int32} {gki : Nat → Int32} {gin : Nat → Int32} {gpl : Nat → Int32} {gle : Nat → Int32} {gso : Nat → Int32} {gva : Nat → Int64} {ghe : Nat → Int32} (hp : post (ext_of 41 acc) (vth, vtp)) : wp_Md_load_79 post k 41 (nI 8) fr vth vtp vme vta vpl vel vsg vus vrw vur vwr vch gpg gki gin gpl gle gso gva ghe 1 acc (nI 0 - 1) := by
  have t0 : (((41 : Int32) ≤ 43) = True) := eq_true (by decide)
  have t1 : (((41 : Int32) = 44) = False) := eq_false (by decide)
  have t2 : (((41 : Int32) = 46) = False) := eq_false (by decide)
  have t3 : ((nI 0 - 1 < 0) = True) := eq_true (by decide)
  have t4 : (((41 : Int32) - 41 / 2 * 2 = 0) = False) := eq_false (by decide)
  have t9 : (64 : Int32) - 8 * nI 8 = nI 0 := by decide
  simp only [wp_Md_load_79, t0, t1, t2, t3, t4, t9, not_true_eq_false, not_false_eq_true, true_implies, false_implies, implies_true, and_true, true_and, forall_eq, if_true, if_false, true_or, or_true, eui, eiu, nb0, nb1, z10, z20, z01, z02, z12, z21, lt00, lt04, lt05, ps10, ps14, ps15]
  unfold ext_of at hp
  rw [if_neg (by decide), if_neg (by decide), if_neg (by decide), if_neg (by decide), if_neg (by decide)] at hp
  exact hp
theorem ld_e42 {post : Int64 → (Int32 × Int32) → Prop} {k : Int32} {fr acc : Int64} {vth : Int32} {vtp : Int32} {vme : Int32} {vta : Int32} {vpl : Int32} {vel : Int32} {vsg : Int32} {vus : Int32} {vrw : Int32} {vur : Int32} {vwr : Int32} {vch : Int32} {gpg : Nat → Int32} {gki : Nat → Int32} {gin : Nat → Int32} {gpl : Nat → Int32} {gle : Nat → Int32} {gso : Nat → Int32} {gva : Nat → Int64} {ghe : Nat → Int32} (hp : post (ext_of 42 acc) (vth, vtp)) : wp_Md_load_79 post k 42 (nI 4) fr vth vtp vme vta vpl vel vsg vus vrw vur vwr vch gpg gki gin gpl gle gso gva ghe 1 acc (nI 0 - 1) := by
  have t0 : (((42 : Int32) ≤ 43) = True) := eq_true (by decide)
  have t1 : (((42 : Int32) = 44) = False) := eq_false (by decide)
  have t2 : (((42 : Int32) = 46) = False) := eq_false (by decide)
  have t3 : ((nI 0 - 1 < 0) = True) := eq_true (by decide)
  have t4 : (((42 : Int32) - 42 / 2 * 2 = 0) = True) := eq_true (by decide)
  have t9 : (64 : Int32) - 8 * nI 4 = nI 32 := by decide
  simp only [wp_Md_load_79, t0, t1, t2, t3, t4, t9, not_true_eq_false, not_false_eq_true, true_implies, false_implies, implies_true, and_true, true_and, forall_eq, if_true, if_false, true_or, or_true, eui, eiu, nb0, nb1, z10, z20, z01, z02, z12, z21, lt00, lt04, lt05, ps10, ps14, ps15]
  unfold ext_of at hp
  rw [if_neg (by decide), if_neg (by decide), if_neg (by decide), if_neg (by decide), if_neg (by decide)] at hp
  exact hp
theorem ld_e43 {post : Int64 → (Int32 × Int32) → Prop} {k : Int32} {fr acc : Int64} {vth : Int32} {vtp : Int32} {vme : Int32} {vta : Int32} {vpl : Int32} {vel : Int32} {vsg : Int32} {vus : Int32} {vrw : Int32} {vur : Int32} {vwr : Int32} {vch : Int32} {gpg : Nat → Int32} {gki : Nat → Int32} {gin : Nat → Int32} {gpl : Nat → Int32} {gle : Nat → Int32} {gso : Nat → Int32} {gva : Nat → Int64} {ghe : Nat → Int32} (hp : post (ext_of 43 acc) (vth, vtp)) : wp_Md_load_79 post k 43 (nI 8) fr vth vtp vme vta vpl vel vsg vus vrw vur vwr vch gpg gki gin gpl gle gso gva ghe 1 acc (nI 0 - 1) := by
  have t0 : (((43 : Int32) ≤ 43) = True) := eq_true (by decide)
  have t1 : (((43 : Int32) = 44) = False) := eq_false (by decide)
  have t2 : (((43 : Int32) = 46) = False) := eq_false (by decide)
  have t3 : ((nI 0 - 1 < 0) = True) := eq_true (by decide)
  have t4 : (((43 : Int32) - 43 / 2 * 2 = 0) = False) := eq_false (by decide)
  have t9 : (64 : Int32) - 8 * nI 8 = nI 0 := by decide
  simp only [wp_Md_load_79, t0, t1, t2, t3, t4, t9, not_true_eq_false, not_false_eq_true, true_implies, false_implies, implies_true, and_true, true_and, forall_eq, if_true, if_false, true_or, or_true, eui, eiu, nb0, nb1, z10, z20, z01, z02, z12, z21, lt00, lt04, lt05, ps10, ps14, ps15]
  unfold ext_of at hp
  rw [if_neg (by decide), if_neg (by decide), if_neg (by decide), if_neg (by decide), if_neg (by decide)] at hp
  exact hp
theorem ld_e44 {post : Int64 → (Int32 × Int32) → Prop} {k : Int32} {fr acc : Int64} {vth : Int32} {vtp : Int32} {vme : Int32} {vta : Int32} {vpl : Int32} {vel : Int32} {vsg : Int32} {vus : Int32} {vrw : Int32} {vur : Int32} {vwr : Int32} {vch : Int32} {gpg : Nat → Int32} {gki : Nat → Int32} {gin : Nat → Int32} {gpl : Nat → Int32} {gle : Nat → Int32} {gso : Nat → Int32} {gva : Nat → Int64} {ghe : Nat → Int32} (hp : post (ext_of 44 acc) (vth, vtp)) : wp_Md_load_79 post k 44 (nI 1) fr vth vtp vme vta vpl vel vsg vus vrw vur vwr vch gpg gki gin gpl gle gso gva ghe 1 acc (nI 0 - 1) := by
  have t0 : (((44 : Int32) ≤ 43) = False) := eq_false (by decide)
  have t1 : (((44 : Int32) = 44) = True) := eq_true (by decide)
  have t2 : (((44 : Int32) = 46) = False) := eq_false (by decide)
  have t3 : ((nI 0 - 1 < 0) = True) := eq_true (by decide)
  have t4 : (((44 : Int32) - 44 / 2 * 2 = 0) = True) := eq_true (by decide)
  have t9 : (64 : Int32) - 8 * nI 1 = nI 56 := by decide
  simp only [wp_Md_load_79, t0, t1, t2, t3, t4, t9, not_true_eq_false, not_false_eq_true, true_implies, false_implies, implies_true, and_true, true_and, forall_eq, if_true, if_false, true_or, or_true, eui, eiu, nb0, nb1, z10, z20, z01, z02, z12, z21, lt00, lt04, lt05, ps10, ps14, ps15]
  rw [sx8]
  unfold ext_of at hp
  rw [if_pos rfl] at hp
  exact hp
theorem ld_e45 {post : Int64 → (Int32 × Int32) → Prop} {k : Int32} {fr acc : Int64} {vth : Int32} {vtp : Int32} {vme : Int32} {vta : Int32} {vpl : Int32} {vel : Int32} {vsg : Int32} {vus : Int32} {vrw : Int32} {vur : Int32} {vwr : Int32} {vch : Int32} {gpg : Nat → Int32} {gki : Nat → Int32} {gin : Nat → Int32} {gpl : Nat → Int32} {gle : Nat → Int32} {gso : Nat → Int32} {gva : Nat → Int64} {ghe : Nat → Int32} (hp : post (ext_of 45 acc) (vth, vtp)) : wp_Md_load_79 post k 45 (nI 1) fr vth vtp vme vta vpl vel vsg vus vrw vur vwr vch gpg gki gin gpl gle gso gva ghe 1 acc (nI 0 - 1) := by
  have t0 : (((45 : Int32) ≤ 43) = False) := eq_false (by decide)
  have t1 : (((45 : Int32) = 44) = False) := eq_false (by decide)
  have t2 : (((45 : Int32) = 46) = False) := eq_false (by decide)
  have t3 : ((nI 0 - 1 < 0) = True) := eq_true (by decide)
  have t4 : (((45 : Int32) - 45 / 2 * 2 = 0) = False) := eq_false (by decide)
  have t9 : (64 : Int32) - 8 * nI 1 = nI 56 := by decide
  simp only [wp_Md_load_79, t0, t1, t2, t3, t4, t9, not_true_eq_false, not_false_eq_true, true_implies, false_implies, implies_true, and_true, true_and, forall_eq, if_true, if_false, true_or, or_true, eui, eiu, nb0, nb1, z10, z20, z01, z02, z12, z21, lt00, lt04, lt05, ps10, ps14, ps15]
  unfold ext_of at hp
  rw [if_neg (by decide), if_neg (by decide), if_neg (by decide), if_neg (by decide), if_neg (by decide)] at hp
  exact hp
theorem ld_e46 {post : Int64 → (Int32 × Int32) → Prop} {k : Int32} {fr acc : Int64} {vth : Int32} {vtp : Int32} {vme : Int32} {vta : Int32} {vpl : Int32} {vel : Int32} {vsg : Int32} {vus : Int32} {vrw : Int32} {vur : Int32} {vwr : Int32} {vch : Int32} {gpg : Nat → Int32} {gki : Nat → Int32} {gin : Nat → Int32} {gpl : Nat → Int32} {gle : Nat → Int32} {gso : Nat → Int32} {gva : Nat → Int64} {ghe : Nat → Int32} (hp : post (ext_of 46 acc) (vth, vtp)) : wp_Md_load_79 post k 46 (nI 2) fr vth vtp vme vta vpl vel vsg vus vrw vur vwr vch gpg gki gin gpl gle gso gva ghe 1 acc (nI 0 - 1) := by
  have t0 : (((46 : Int32) ≤ 43) = False) := eq_false (by decide)
  have t1 : (((46 : Int32) = 44) = False) := eq_false (by decide)
  have t2 : (((46 : Int32) = 46) = True) := eq_true (by decide)
  have t3 : ((nI 0 - 1 < 0) = True) := eq_true (by decide)
  have t4 : (((46 : Int32) - 46 / 2 * 2 = 0) = True) := eq_true (by decide)
  have t9 : (64 : Int32) - 8 * nI 2 = nI 48 := by decide
  simp only [wp_Md_load_79, t0, t1, t2, t3, t4, t9, not_true_eq_false, not_false_eq_true, true_implies, false_implies, implies_true, and_true, true_and, forall_eq, if_true, if_false, true_or, or_true, eui, eiu, nb0, nb1, z10, z20, z01, z02, z12, z21, lt00, lt04, lt05, ps10, ps14, ps15]
  rw [sx16]
  unfold ext_of at hp
  rw [if_neg (by decide), if_pos rfl] at hp
  exact hp
theorem ld_e47 {post : Int64 → (Int32 × Int32) → Prop} {k : Int32} {fr acc : Int64} {vth : Int32} {vtp : Int32} {vme : Int32} {vta : Int32} {vpl : Int32} {vel : Int32} {vsg : Int32} {vus : Int32} {vrw : Int32} {vur : Int32} {vwr : Int32} {vch : Int32} {gpg : Nat → Int32} {gki : Nat → Int32} {gin : Nat → Int32} {gpl : Nat → Int32} {gle : Nat → Int32} {gso : Nat → Int32} {gva : Nat → Int64} {ghe : Nat → Int32} (hp : post (ext_of 47 acc) (vth, vtp)) : wp_Md_load_79 post k 47 (nI 2) fr vth vtp vme vta vpl vel vsg vus vrw vur vwr vch gpg gki gin gpl gle gso gva ghe 1 acc (nI 0 - 1) := by
  have t0 : (((47 : Int32) ≤ 43) = False) := eq_false (by decide)
  have t1 : (((47 : Int32) = 44) = False) := eq_false (by decide)
  have t2 : (((47 : Int32) = 46) = False) := eq_false (by decide)
  have t3 : ((nI 0 - 1 < 0) = True) := eq_true (by decide)
  have t4 : (((47 : Int32) - 47 / 2 * 2 = 0) = False) := eq_false (by decide)
  have t9 : (64 : Int32) - 8 * nI 2 = nI 48 := by decide
  simp only [wp_Md_load_79, t0, t1, t2, t3, t4, t9, not_true_eq_false, not_false_eq_true, true_implies, false_implies, implies_true, and_true, true_and, forall_eq, if_true, if_false, true_or, or_true, eui, eiu, nb0, nb1, z10, z20, z01, z02, z12, z21, lt00, lt04, lt05, ps10, ps14, ps15]
  unfold ext_of at hp
  rw [if_neg (by decide), if_neg (by decide), if_neg (by decide), if_neg (by decide), if_neg (by decide)] at hp
  exact hp
theorem ld_e48 {post : Int64 → (Int32 × Int32) → Prop} {k : Int32} {fr acc : Int64} {vth : Int32} {vtp : Int32} {vme : Int32} {vta : Int32} {vpl : Int32} {vel : Int32} {vsg : Int32} {vus : Int32} {vrw : Int32} {vur : Int32} {vwr : Int32} {vch : Int32} {gpg : Nat → Int32} {gki : Nat → Int32} {gin : Nat → Int32} {gpl : Nat → Int32} {gle : Nat → Int32} {gso : Nat → Int32} {gva : Nat → Int64} {ghe : Nat → Int32} (hp : post (ext_of 48 acc) (vth, vtp)) : wp_Md_load_79 post k 48 (nI 1) fr vth vtp vme vta vpl vel vsg vus vrw vur vwr vch gpg gki gin gpl gle gso gva ghe 1 acc (nI 0 - 1) := by
  have t0 : (((48 : Int32) ≤ 43) = False) := eq_false (by decide)
  have t1 : (((48 : Int32) = 44) = False) := eq_false (by decide)
  have t2 : (((48 : Int32) = 46) = False) := eq_false (by decide)
  have t3 : ((nI 0 - 1 < 0) = True) := eq_true (by decide)
  have t4 : (((48 : Int32) - 48 / 2 * 2 = 0) = True) := eq_true (by decide)
  have t9 : (64 : Int32) - 8 * nI 1 = nI 56 := by decide
  simp only [wp_Md_load_79, t0, t1, t2, t3, t4, t9, not_true_eq_false, not_false_eq_true, true_implies, false_implies, implies_true, and_true, true_and, forall_eq, if_true, if_false, true_or, or_true, eui, eiu, nb0, nb1, z10, z20, z01, z02, z12, z21, lt00, lt04, lt05, ps10, ps14, ps15]
  rw [sx8]
  unfold ext_of at hp
  rw [if_neg (by decide), if_neg (by decide), if_pos rfl] at hp
  exact hp
theorem ld_e49 {post : Int64 → (Int32 × Int32) → Prop} {k : Int32} {fr acc : Int64} {vth : Int32} {vtp : Int32} {vme : Int32} {vta : Int32} {vpl : Int32} {vel : Int32} {vsg : Int32} {vus : Int32} {vrw : Int32} {vur : Int32} {vwr : Int32} {vch : Int32} {gpg : Nat → Int32} {gki : Nat → Int32} {gin : Nat → Int32} {gpl : Nat → Int32} {gle : Nat → Int32} {gso : Nat → Int32} {gva : Nat → Int64} {ghe : Nat → Int32} (hp : post (ext_of 49 acc) (vth, vtp)) : wp_Md_load_79 post k 49 (nI 1) fr vth vtp vme vta vpl vel vsg vus vrw vur vwr vch gpg gki gin gpl gle gso gva ghe 1 acc (nI 0 - 1) := by
  have t0 : (((49 : Int32) ≤ 43) = False) := eq_false (by decide)
  have t1 : (((49 : Int32) = 44) = False) := eq_false (by decide)
  have t2 : (((49 : Int32) = 46) = False) := eq_false (by decide)
  have t3 : ((nI 0 - 1 < 0) = True) := eq_true (by decide)
  have t4 : (((49 : Int32) - 49 / 2 * 2 = 0) = False) := eq_false (by decide)
  have t9 : (64 : Int32) - 8 * nI 1 = nI 56 := by decide
  simp only [wp_Md_load_79, t0, t1, t2, t3, t4, t9, not_true_eq_false, not_false_eq_true, true_implies, false_implies, implies_true, and_true, true_and, forall_eq, if_true, if_false, true_or, or_true, eui, eiu, nb0, nb1, z10, z20, z01, z02, z12, z21, lt00, lt04, lt05, ps10, ps14, ps15]
  unfold ext_of at hp
  rw [if_neg (by decide), if_neg (by decide), if_neg (by decide), if_neg (by decide), if_neg (by decide)] at hp
  exact hp
theorem ld_e50 {post : Int64 → (Int32 × Int32) → Prop} {k : Int32} {fr acc : Int64} {vth : Int32} {vtp : Int32} {vme : Int32} {vta : Int32} {vpl : Int32} {vel : Int32} {vsg : Int32} {vus : Int32} {vrw : Int32} {vur : Int32} {vwr : Int32} {vch : Int32} {gpg : Nat → Int32} {gki : Nat → Int32} {gin : Nat → Int32} {gpl : Nat → Int32} {gle : Nat → Int32} {gso : Nat → Int32} {gva : Nat → Int64} {ghe : Nat → Int32} (hp : post (ext_of 50 acc) (vth, vtp)) : wp_Md_load_79 post k 50 (nI 2) fr vth vtp vme vta vpl vel vsg vus vrw vur vwr vch gpg gki gin gpl gle gso gva ghe 1 acc (nI 0 - 1) := by
  have t0 : (((50 : Int32) ≤ 43) = False) := eq_false (by decide)
  have t1 : (((50 : Int32) = 44) = False) := eq_false (by decide)
  have t2 : (((50 : Int32) = 46) = False) := eq_false (by decide)
  have t3 : ((nI 0 - 1 < 0) = True) := eq_true (by decide)
  have t4 : (((50 : Int32) - 50 / 2 * 2 = 0) = True) := eq_true (by decide)
  have t9 : (64 : Int32) - 8 * nI 2 = nI 48 := by decide
  simp only [wp_Md_load_79, t0, t1, t2, t3, t4, t9, not_true_eq_false, not_false_eq_true, true_implies, false_implies, implies_true, and_true, true_and, forall_eq, if_true, if_false, true_or, or_true, eui, eiu, nb0, nb1, z10, z20, z01, z02, z12, z21, lt00, lt04, lt05, ps10, ps14, ps15]
  rw [sx16]
  unfold ext_of at hp
  rw [if_neg (by decide), if_neg (by decide), if_neg (by decide), if_pos rfl] at hp
  exact hp
theorem ld_e51 {post : Int64 → (Int32 × Int32) → Prop} {k : Int32} {fr acc : Int64} {vth : Int32} {vtp : Int32} {vme : Int32} {vta : Int32} {vpl : Int32} {vel : Int32} {vsg : Int32} {vus : Int32} {vrw : Int32} {vur : Int32} {vwr : Int32} {vch : Int32} {gpg : Nat → Int32} {gki : Nat → Int32} {gin : Nat → Int32} {gpl : Nat → Int32} {gle : Nat → Int32} {gso : Nat → Int32} {gva : Nat → Int64} {ghe : Nat → Int32} (hp : post (ext_of 51 acc) (vth, vtp)) : wp_Md_load_79 post k 51 (nI 2) fr vth vtp vme vta vpl vel vsg vus vrw vur vwr vch gpg gki gin gpl gle gso gva ghe 1 acc (nI 0 - 1) := by
  have t0 : (((51 : Int32) ≤ 43) = False) := eq_false (by decide)
  have t1 : (((51 : Int32) = 44) = False) := eq_false (by decide)
  have t2 : (((51 : Int32) = 46) = False) := eq_false (by decide)
  have t3 : ((nI 0 - 1 < 0) = True) := eq_true (by decide)
  have t4 : (((51 : Int32) - 51 / 2 * 2 = 0) = False) := eq_false (by decide)
  have t9 : (64 : Int32) - 8 * nI 2 = nI 48 := by decide
  simp only [wp_Md_load_79, t0, t1, t2, t3, t4, t9, not_true_eq_false, not_false_eq_true, true_implies, false_implies, implies_true, and_true, true_and, forall_eq, if_true, if_false, true_or, or_true, eui, eiu, nb0, nb1, z10, z20, z01, z02, z12, z21, lt00, lt04, lt05, ps10, ps14, ps15]
  unfold ext_of at hp
  rw [if_neg (by decide), if_neg (by decide), if_neg (by decide), if_neg (by decide), if_neg (by decide)] at hp
  exact hp
theorem ld_e52 {post : Int64 → (Int32 × Int32) → Prop} {k : Int32} {fr acc : Int64} {vth : Int32} {vtp : Int32} {vme : Int32} {vta : Int32} {vpl : Int32} {vel : Int32} {vsg : Int32} {vus : Int32} {vrw : Int32} {vur : Int32} {vwr : Int32} {vch : Int32} {gpg : Nat → Int32} {gki : Nat → Int32} {gin : Nat → Int32} {gpl : Nat → Int32} {gle : Nat → Int32} {gso : Nat → Int32} {gva : Nat → Int64} {ghe : Nat → Int32} (hp : post (ext_of 52 acc) (vth, vtp)) : wp_Md_load_79 post k 52 (nI 4) fr vth vtp vme vta vpl vel vsg vus vrw vur vwr vch gpg gki gin gpl gle gso gva ghe 1 acc (nI 0 - 1) := by
  have t0 : (((52 : Int32) ≤ 43) = False) := eq_false (by decide)
  have t1 : (((52 : Int32) = 44) = False) := eq_false (by decide)
  have t2 : (((52 : Int32) = 46) = False) := eq_false (by decide)
  have t3 : ((nI 0 - 1 < 0) = True) := eq_true (by decide)
  have t4 : (((52 : Int32) - 52 / 2 * 2 = 0) = True) := eq_true (by decide)
  have t9 : (64 : Int32) - 8 * nI 4 = nI 32 := by decide
  simp only [wp_Md_load_79, t0, t1, t2, t3, t4, t9, not_true_eq_false, not_false_eq_true, true_implies, false_implies, implies_true, and_true, true_and, forall_eq, if_true, if_false, true_or, or_true, eui, eiu, nb0, nb1, z10, z20, z01, z02, z12, z21, lt00, lt04, lt05, ps10, ps14, ps15]
  rw [sx32]
  unfold ext_of at hp
  rw [if_neg (by decide), if_neg (by decide), if_neg (by decide), if_neg (by decide), if_pos rfl] at hp
  exact hp
theorem ld_e53 {post : Int64 → (Int32 × Int32) → Prop} {k : Int32} {fr acc : Int64} {vth : Int32} {vtp : Int32} {vme : Int32} {vta : Int32} {vpl : Int32} {vel : Int32} {vsg : Int32} {vus : Int32} {vrw : Int32} {vur : Int32} {vwr : Int32} {vch : Int32} {gpg : Nat → Int32} {gki : Nat → Int32} {gin : Nat → Int32} {gpl : Nat → Int32} {gle : Nat → Int32} {gso : Nat → Int32} {gva : Nat → Int64} {ghe : Nat → Int32} (hp : post (ext_of 53 acc) (vth, vtp)) : wp_Md_load_79 post k 53 (nI 4) fr vth vtp vme vta vpl vel vsg vus vrw vur vwr vch gpg gki gin gpl gle gso gva ghe 1 acc (nI 0 - 1) := by
  have t0 : (((53 : Int32) ≤ 43) = False) := eq_false (by decide)
  have t1 : (((53 : Int32) = 44) = False) := eq_false (by decide)
  have t2 : (((53 : Int32) = 46) = False) := eq_false (by decide)
  have t3 : ((nI 0 - 1 < 0) = True) := eq_true (by decide)
  have t4 : (((53 : Int32) - 53 / 2 * 2 = 0) = False) := eq_false (by decide)
  have t9 : (64 : Int32) - 8 * nI 4 = nI 32 := by decide
  simp only [wp_Md_load_79, t0, t1, t2, t3, t4, t9, not_true_eq_false, not_false_eq_true, true_implies, false_implies, implies_true, and_true, true_and, forall_eq, if_true, if_false, true_or, or_true, eui, eiu, nb0, nb1, z10, z20, z01, z02, z12, z21, lt00, lt04, lt05, ps10, ps14, ps15]
  unfold ext_of at hp
  rw [if_neg (by decide), if_neg (by decide), if_neg (by decide), if_neg (by decide), if_neg (by decide)] at hp
  exact hp
theorem ld_end {post : Int64 → (Int32 × Int32) → Prop} {k op : Int32} {fr acc : Int64} {vth : Int32} {vtp : Int32} {vme : Int32} {vta : Int32} {vpl : Int32} {vel : Int32} {vsg : Int32} {vus : Int32} {vrw : Int32} {vur : Int32} {vwr : Int32} {vch : Int32} {gpg : Nat → Int32} {gki : Nat → Int32} {gin : Nat → Int32} {gpl : Nat → Int32} {gle : Nat → Int32} {gso : Nat → Int32} {gva : Nat → Int64} {ghe : Nat → Int32} {w : Nat} (hw : w ≤ 8) (ew : w_of op 40 14 wLoad = nI w) (hw0 : w ≠ 0) (hp : post (ext_of op acc) (vth, vtp)) : wp_Md_load_79 post k op (nI w) fr vth vtp vme vta vpl vel vsg vus vrw vur vwr vch gpg gki gin gpl gle gso gva ghe 1 acc (nI 0 - 1) := by
  unfold w_of at ew
  have n0 : ∀ z : Int32, z = 0 → ¬ z = nI w := fun z hz q => nI_ne0 (n := w) (by omega) (by omega) (q.symm.trans hz)
  by_cases h1 : op < 40
  · rw [if_pos h1] at ew
    exact absurd ew (n0 0 rfl)
  rw [if_neg h1] at ew
  by_cases h2 : op - 40 < nI 14
  · rw [if_pos h2] at ew
    have hin := w_of_in (fst := 40) (n := 14) h1 h2 (by decide) (by decide)
    obtain ⟨j, hj, ej⟩ := vp_in_of hin (by decide)
    rw [ej, nI_clamp (by omega)] at ew
    have eo : op = nI j + 40 := by rw [← ej, Int32.sub_add_cancel]
    match j, hj with
    | 0, _ =>
      have e : op = 40 := eo
      subst e
      have e2 : w = 4 := ((nI_eq (a := 4) (by decide) (by omega)).mp ew).symm
      subst e2
      exact ld_e40 hp
    | 1, _ =>
      have e : op = 41 := eo
      subst e
      have e2 : w = 8 := ((nI_eq (a := 8) (by decide) (by omega)).mp ew).symm
      subst e2
      exact ld_e41 hp
    | 2, _ =>
      have e : op = 42 := eo
      subst e
      have e2 : w = 4 := ((nI_eq (a := 4) (by decide) (by omega)).mp ew).symm
      subst e2
      exact ld_e42 hp
    | 3, _ =>
      have e : op = 43 := eo
      subst e
      have e2 : w = 8 := ((nI_eq (a := 8) (by decide) (by omega)).mp ew).symm
      subst e2
      exact ld_e43 hp
    | 4, _ =>
      have e : op = 44 := eo
      subst e
      have e2 : w = 1 := ((nI_eq (a := 1) (by decide) (by omega)).mp ew).symm
      subst e2
      exact ld_e44 hp
    | 5, _ =>
      have e : op = 45 := eo
      subst e
      have e2 : w = 1 := ((nI_eq (a := 1) (by decide) (by omega)).mp ew).symm
      subst e2
      exact ld_e45 hp
    | 6, _ =>
      have e : op = 46 := eo
      subst e
      have e2 : w = 2 := ((nI_eq (a := 2) (by decide) (by omega)).mp ew).symm
      subst e2
      exact ld_e46 hp
    | 7, _ =>
      have e : op = 47 := eo
      subst e
      have e2 : w = 2 := ((nI_eq (a := 2) (by decide) (by omega)).mp ew).symm
      subst e2
      exact ld_e47 hp
    | 8, _ =>
      have e : op = 48 := eo
      subst e
      have e2 : w = 1 := ((nI_eq (a := 1) (by decide) (by omega)).mp ew).symm
      subst e2
      exact ld_e48 hp
    | 9, _ =>
      have e : op = 49 := eo
      subst e
      have e2 : w = 1 := ((nI_eq (a := 1) (by decide) (by omega)).mp ew).symm
      subst e2
      exact ld_e49 hp
    | 10, _ =>
      have e : op = 50 := eo
      subst e
      have e2 : w = 2 := ((nI_eq (a := 2) (by decide) (by omega)).mp ew).symm
      subst e2
      exact ld_e50 hp
    | 11, _ =>
      have e : op = 51 := eo
      subst e
      have e2 : w = 2 := ((nI_eq (a := 2) (by decide) (by omega)).mp ew).symm
      subst e2
      exact ld_e51 hp
    | 12, _ =>
      have e : op = 52 := eo
      subst e
      have e2 : w = 4 := ((nI_eq (a := 4) (by decide) (by omega)).mp ew).symm
      subst e2
      exact ld_e52 hp
    | 13, _ =>
      have e : op = 53 := eo
      subst e
      have e2 : w = 4 := ((nI_eq (a := 4) (by decide) (by omega)).mp ew).symm
      subst e2
      exact ld_e53 hp
    | j + 14, hj => exact absurd hj (by omega)
  · rw [if_neg h2] at ew
    exact absurd ew (n0 0 rfl)
theorem w_ldof (op : Int32) : ∃ w, w ≤ 8 ∧ w_of op 40 14 wLoad = nI w := by
  unfold w_of
  split
  · exact ⟨0, by decide, rfl⟩
  · split
    · generalize (op - 40).toNatClampNeg = j
      match j with
      | 0 => exact ⟨4, by decide, rfl⟩
      | 1 => exact ⟨8, by decide, rfl⟩
      | 2 => exact ⟨4, by decide, rfl⟩
      | 3 => exact ⟨8, by decide, rfl⟩
      | 4 => exact ⟨1, by decide, rfl⟩
      | 5 => exact ⟨1, by decide, rfl⟩
      | 6 => exact ⟨2, by decide, rfl⟩
      | 7 => exact ⟨2, by decide, rfl⟩
      | 8 => exact ⟨1, by decide, rfl⟩
      | 9 => exact ⟨1, by decide, rfl⟩
      | 10 => exact ⟨2, by decide, rfl⟩
      | 11 => exact ⟨2, by decide, rfl⟩
      | 12 => exact ⟨4, by decide, rfl⟩
      | 13 => exact ⟨4, by decide, rfl⟩
      | j + 14 => exact ⟨0, by decide, rfl⟩
    · exact ⟨0, by decide, rfl⟩
theorem yb_l (x : Int32) : (x &&& 255).toInt64 = lN (x.toBitVec.toNat % 256) := by
  rw [pk_and x (m := 255) 8 (by decide), nI_l]
  have := Nat.mod_lt x.toBitVec.toNat (show 2 ^ 8 > 0 by decide)
  omega
theorem ld_md0 {post : Int64 → (Int32 × Int32) → Prop} {k op : Int32} {fr : Int64} {vth : Int32} {vtp : Int32} {vme : Int32} {vta : Int32} {vpl : Int32} {vel : Int32} {vsg : Int32} {vus : Int32} {vrw : Int32} {vur : Int32} {vch : Int32} {gpg : Nat → Int32} {gki : Nat → Int32} {gin : Nat → Int32} {gpl : Nat → Int32} {gle : Nat → Int32} {gso : Nat → Int32} {gva : Nat → Int64} {ghe : Nat → Int32} {w c : Nat} (hw : w ≤ 8) (y : Nat → Nat) (hy : ∀ i, y i < 256) (hc : c ≤ 520) (hwr : wr_ok gki gle gso c 600) (hyb : ∀ i, i < w → (byA gki gin gpl gle gso gva ghe k c (fr.toInt32 + nI i)).toInt64 = lN (y i))
    (hend : wp_Md_load_79 post k op (nI w) fr vth vtp vme vta vpl vel vsg vus vrw vur (nI c) vch gpg gki gin gpl gle gso gva ghe 1 (lN (NB y w)) (nI 0 - 1)) : wp_Md_load_79 post k op (nI w) fr vth vtp vme vta vpl vel vsg vus vrw vur (nI c) vch gpg gki gin gpl gle gso gva ghe (w + 1) 0 (nI w - 1) := by
  have h := ld_md hw y hy hc hwr hyb hend w (Nat.le_refl w)
  rw [Nat.sub_self] at h
  exact h
theorem vin_mono {x : Int32} {a b : Nat} (h : vp_in x a) (hab : a ≤ b) : vp_in x b := fun q => h (q.imp id (fun z => Nat.le_trans hab z))
