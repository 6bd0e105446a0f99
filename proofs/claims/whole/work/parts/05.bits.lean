/-! Bits of papers: shifts and masks as division and remainder -/
theorem pb_ext (x : BitVec 64) (k w : Nat) (h : k + w ≤ 64) : (x.sshiftRight k &&& BitVec.ofNat 64 (2 ^ w - 1)).toNat = x.toNat / 2 ^ k % 2 ^ w := by
  apply Nat.eq_of_testBit_eq
  intro i
  rw [BitVec.toNat_and, Nat.testBit_and, Nat.testBit_mod_two_pow, Nat.testBit_div_two_pow, BitVec.testBit_toNat, BitVec.testBit_toNat, BitVec.testBit_toNat, BitVec.getLsbD_sshiftRight, BitVec.getLsbD_ofNat, Nat.testBit_two_pow_sub_one]
  by_cases hi : i < w
  · have h1 : k + i < 64 := by omega
    have h2 : i < 64 := by omega
    have h3 : ¬ 64 ≤ i := by omega
    simp [hi, h1, h2, h3, Nat.add_comm]
  · simp [hi]
theorem pb_amt : ∀ k : Fin 64, (((nI k.val).toInt64 &&& 63).toBitVec.smod 64).toNat = k.val := by decide +kernel
theorem pb_13 : (((nI 13).toInt64 &&& 63).toBitVec.smod 64).toNat = 13 := by decide +kernel
theorem pb_toNat {n : Nat} (h : n < 2 ^ 32) : (nI n).toBitVec.toNat = n := pk_tn h
theorem px_shr (p m : Int64) {k w : Nat} (hk : k + w ≤ 64) (hw : w < 32) (hw0 : 0 < w) (hm : m.toBitVec = BitVec.ofNat 64 (2 ^ w - 1)) : ((p >>> ((nI k).toInt64 &&& 63)) &&& m).toInt32 = nI (pn p / 2 ^ k % 2 ^ w) := by
  apply Int32.toBitVec_inj.mp
  apply BitVec.eq_of_toNat_eq
  have hp : pn p / 2 ^ k % 2 ^ w < 2 ^ 32 := Nat.lt_trans (Nat.mod_lt _ (Nat.two_pow_pos w)) (Nat.pow_lt_pow_right (by decide) hw)
  rw [pb_toNat hp, Int64.toBitVec_toInt32, BitVec.signExtend_eq_setWidth_of_le _ (by decide), BitVec.toNat_setWidth, Int64.toBitVec_and, Int64.toBitVec_shiftRight, hm]
  have e : p.toBitVec.sshiftRight' (((nI k).toInt64 &&& 63).toBitVec.smod 64) = p.toBitVec.sshiftRight k := by
    show p.toBitVec.sshiftRight (((nI k).toInt64 &&& 63).toBitVec.smod 64).toNat = _
    rw [pb_amt ⟨k, by omega⟩]
  rw [e, pb_ext _ _ _ hk]
  exact Nat.mod_eq_of_lt hp
theorem px_and (p m : Int64) {w : Nat} (hw : w < 32) (hw0 : 0 < w) (hm : m.toBitVec = BitVec.ofNat 64 (2 ^ w - 1)) : (p &&& m).toInt32 = nI (pn p % 2 ^ w) := by
  have h := px_shr p m (k := 0) (w := w) (by omega) hw hw0 hm
  have e : p >>> ((nI 0).toInt64 &&& 63) = p := by
    apply Int64.toBitVec_inj.mp
    rw [Int64.toBitVec_shiftRight]
    show p.toBitVec.sshiftRight (((nI 0).toInt64 &&& 63).toBitVec.smod 64).toNat = _
    rw [pb_amt ⟨0, by decide⟩]
    simp
  rw [e] at h
  rw [h]
  simp
theorem px_pay (p : Int64) : (p &&& 7).toInt32 = nI (payN p) := px_and p 7 (w := 3) (by decide) (by decide) (by decide)
theorem px_amt (p : Int64) : ((p >>> ((nI 3).toInt64 &&& 63)) &&& 1023).toInt32 = nI (amtN p) := px_shr p 1023 (k := 3) (w := 10) (by decide) (by decide) (by decide) (by decide)
theorem px_need (p : Int64) {c : Nat} (hc : c < 7) : ((p >>> ((nI (13 + 3 * c)).toInt64 &&& 63)) &&& 7).toInt32 = nI (needN p c) := px_shr p 7 (k := 13 + 3 * c) (w := 3) (by omega) (by decide) (by decide) (by decide)
theorem px_dig (p : Int64) {c : Nat} (hc : c < 7) : ((p >>> ((nI (3 * c)).toInt64 &&& 63)) &&& 7).toInt32 = nI (digN p c) := px_shr p 7 (k := 3 * c) (w := 3) (by omega) (by decide) (by decide) (by decide)
theorem px_one {n : Nat} (hn : n ≤ 7) : (1 : Int64) <<< ((nI (3 * n)).toInt64 &&& 63) = lN (2 ^ (3 * n)) := by
  have h : ∀ n : Fin 8, (1 : Int64) <<< ((nI (3 * n.val)).toInt64 &&& 63) = lN (2 ^ (3 * n.val)) := by decide +kernel
  exact h ⟨n, by omega⟩
theorem px_int (x : Int64) : x.toInt = if 2 * pn x < 2 ^ 64 then (pn x : Int) else (pn x : Int) - 2 ^ 64 := by
  show x.toBitVec.toInt = _
  rw [BitVec.toInt_eq_toNat_cond]
  rfl
theorem px_lt (x : Int64) : pn x < 2 ^ 64 := x.toBitVec.isLt
theorem px_neg (x : Int64) : x < 0 ↔ 2 ^ 63 ≤ pn x := by
  rw [Int64.lt_iff_toInt_lt, px_int]
  have h := px_lt x
  have h0 : (0 : Int64).toInt = 0 := by decide
  rw [h0]
  split <;> omega
theorem px_ge (x : Int64) {n : Nat} (hn : n < 2 ^ 63) (h0 : ¬ x < 0) : lN n ≤ x ↔ n ≤ pn x := by
  rw [px_neg] at h0
  rw [Int64.le_iff_toInt_le, pk_lT hn, px_int x]
  have h := px_lt x
  split <;> omega
theorem px_lN {n : Nat} (h : n < 2 ^ 64) : pn (lN n) = n := by
  show (Int64.ofNat n).toBitVec.toNat = n
  rw [Int64.toBitVec_ofNat', BitVec.toNat_ofNat]
  exact Nat.mod_eq_of_lt h
theorem px_inj {x y : Int64} (h : pn x = pn y) : x = y := Int64.toBitVec_inj.mp (BitVec.eq_of_toNat_eq h)
theorem px_of (x : Int64) : x = lN (pn x) := px_inj (px_lN (px_lt x)).symm
/-- p >> 13 of a paper that is not negative -/
theorem px_13 (p : Int64) (h : ¬ p < 0) : p >>> ((nI 13).toInt64 &&& 63) = lN (pn p / 2 ^ 13) := by
  rw [px_neg] at h
  apply px_inj
  have h1 := px_lt p
  rw [px_lN (by omega)]
  show (p >>> ((nI 13).toInt64 &&& 63)).toBitVec.toNat = _
  rw [Int64.toBitVec_shiftRight]
  show (p.toBitVec.sshiftRight (((nI 13).toInt64 &&& 63).toBitVec.smod 64).toNat).toNat = _
  rw [pb_13]
  rw [BitVec.toNat_sshiftRight_of_msb_false (by rw [BitVec.msb_eq_decide]; simpa using (by unfold pn at h; omega))]
  rw [Nat.shiftRight_eq_div_pow]
  rfl
theorem px_13n (p : Int64) (h : p < 0) : p >>> ((nI 13).toInt64 &&& 63) < 0 := by
  rw [Int64.lt_iff_toInt_lt] at h ⊢
  have h0 : (0 : Int64).toInt = 0 := by decide
  rw [h0] at h ⊢
  show (p >>> ((nI 13).toInt64 &&& 63)).toBitVec.toInt < 0
  rw [Int64.toBitVec_shiftRight]
  show (p.toBitVec.sshiftRight (((nI 13).toInt64 &&& 63).toBitVec.smod 64).toNat).toInt < 0
  rw [pb_13, BitVec.toInt_sshiftRight]
  have h : p.toBitVec.toInt < 0 := h
  rw [Int.shiftRight_eq_div_pow]
  omega
theorem px_dig13 (p : Int64) (h : ¬ p < 0) (c : Nat) : digN (p >>> ((nI 13).toInt64 &&& 63)) c = needN p c := by
  have h1 := px_lt p
  rw [px_13 p h]
  unfold digN needN
  rw [px_lN (by omega), Nat.div_div_eq_div_mul, ← Nat.pow_add]
